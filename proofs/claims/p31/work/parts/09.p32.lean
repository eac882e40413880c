section Prt32
/-! roads by hand: a rule an instruction -/
noncomputable def w_T (L : Nat) (xs : Nat → Int32) (d : Nat) (M : g_M) (pc : Nat) (lc : g_Lc) (sc : List Value) (S : v_Sf) (R : v_Rf) (Q : Option Value → v_Sf → v_Rf → Prop) : Prop := ∃ n r S' R', (∀ e, g_run g_mt L xs (n + e) d M pc lc sc (v_mk v_ty S R) = some (r, v_mk v_ty S' R')) ∧ Q r S' R'
section WP
variable {L : Nat} {xs : Nat → Int32} {d : Nat} {M : g_M} {pc : Nat} {lc : g_Lc} {sc : List Value} {S : v_Sf} {R : v_Rf} {Q : Option Value → v_Sf → v_Rf → Prop}
theorem w_one {en : g_En} {pc1 : Nat} {lc1 : g_Lc} {sc1 : List Value} {S1 : v_Sf} {R1 : v_Rf} (hen : M.2.2.2.2.2 pc = some en) (hs : g_step d M.2.2.2.1 L xs en pc lc sc (v_mk v_ty S R) = some (pc1, lc1, sc1, v_mk v_ty S1 R1)) (k : w_T L xs d M pc1 lc1 sc1 S1 R1 Q) : w_T L xs d M pc lc sc S R Q := by
  obtain ⟨n, r, S', R', h1, h2⟩ := k
  refine ⟨n + 1, r, S', R', fun e => ?_, h2⟩
  rw [show n + 1 + e = (n + e) + 1 by omega, g_run_step hen hs]
  exact h1 e
theorem w_st {en : g_En} {pc1 : Nat} {lc1 : g_Lc} {sc1 : List Value} (hen : M.2.2.2.2.2 pc = some en) (hs : ∀ σ, g_step d M.2.2.2.1 L xs en pc lc sc σ = some (pc1, lc1, sc1, σ)) (k : w_T L xs d M pc1 lc1 sc1 S R Q) : w_T L xs d M pc lc sc S R Q := w_one hen (hs _) k
/-- a jump of two roads: the step says which by a decided proposition -/
theorem w_br {en : g_En} {t f : Nat} {sc1 : List Value} {P : Prop} [hd : Decidable P] (hen : M.2.2.2.2.2 pc = some en) (hs : ∀ σ, g_step d M.2.2.2.1 L xs en pc lc sc σ = some (bif decide P then t else f, lc, sc1, σ)) (kt : P → w_T L xs d M t lc sc1 S R Q) (kf : ¬ P → w_T L xs d M f lc sc1 S R Q) : w_T L xs d M pc lc sc S R Q := by
  by_cases h : P
  · refine w_one hen ?_ (kt h)
    rw [hs, decide_eq_true h]
    rfl
  · refine w_one hen ?_ (kf h)
    rw [hs, decide_eq_false h]
    rfl
theorem w_ret {en : g_En} {r : Option Value} (hen : M.2.2.2.2.2 pc = some en) (hr : g_rt en.1.1 M.2.2.2.2.1 sc = some r) (q : Q r S R) : w_T L xs d M pc lc sc S R Q := ⟨1, r, S, R, fun e => by rw [show 1 + e = e + 1 by omega]; exact g_run_ret hen (g_step_ret hr) hr, q⟩
theorem w_ty {a : Nat} {c : v_Ct} (h : v_ty a = some c) (S : v_Sf) (R : v_Rf) : (v_mk v_ty S R)[a]? = some (v_cell S R a (some c)) := by
  rw [v_mk_get, if_pos (v_ty_lt a c h), h]
/-- getfield of a number -/
theorem w_get {i len ci y a : Nat} {z : Int} {fs : List v_Ft} {b : Int × Int} {t : List Value} (hen : M.2.2.2.2.2 pc = some ((.getfield i, len), ci, y, z)) (hg : v_ty a = some (.inr (.inr (ci, fs)))) (hf : fs[y]? = some (.inl b)) (k : w_T L xs d M (pc + len) lc (.int (S a y) :: t) S R Q) : w_T L xs d M pc lc (.ref (a + 1) :: t) S R Q := by
  refine w_one hen ?_ k
  refine g_st_hp (en := ((.getfield i, len), ci, y, z)) rfl rfl rfl (q := (.int (S a y) :: t, v_mk v_ty S R)) ?_
  have g1 := w_ty hg S R
  have g2 := v_fs_at (S := S) (R := R) (a := a) hf
  simp only [g_hp, g_gf, g1, v_cell, beq_self_eq_true, cond_true, g2]
  rfl
/-- getfield of a reference that stays -/
theorem w_getr {i len ci y a c : Nat} {z : Int} {fs : List v_Ft} {t : List Value} (hen : M.2.2.2.2.2 pc = some ((.getfield i, len), ci, y, z)) (hg : v_ty a = some (.inr (.inr (ci, fs)))) (hf : fs[y]? = some (.inr (.inl c))) (k : w_T L xs d M (pc + len) lc (.ref c :: t) S R Q) : w_T L xs d M pc lc (.ref (a + 1) :: t) S R Q := by
  refine w_one hen ?_ k
  refine g_st_hp (en := ((.getfield i, len), ci, y, z)) rfl rfl rfl (q := (.ref c :: t, v_mk v_ty S R)) ?_
  have g1 := w_ty hg S R
  have g2 := v_fs_at (S := S) (R := R) (a := a) hf
  simp only [g_hp, g_gf, g1, v_cell, beq_self_eq_true, cond_true, g2]
  rfl
theorem w_mkf {a ci y : Nat} {fs : List v_Ft} {b : Int × Int} (h : v_ty a = some (.inr (.inr (ci, fs)))) (hy : fs[y]? = some (.inl b)) (S : v_Sf) (R : v_Rf) (v : Int32) : (v_mk v_ty S R).set a (.inr (ci, (fs.mapIdx (fun j ft => v_fv S R a j ft)).set y (.int v))) = v_mk v_ty (v_ur S a (upd (S a) y v)) R := v_mk_fld (X := (0, fun _ => 0, (v_ty, [], fun _ _ _ => true, fun _ _ => none, fun _ _ _ _ _ => none), fun _ => True, S, R)) h hy S R v
theorem w_mkr {a tg n : Nat} {b : Int × Int} (h : v_ty a = some (.inl (tg, n, b))) (S : v_Sf) (R : v_Rf) (f : Nat → Int32) : (v_mk v_ty S R).set a (.inl (tg, n, .inl f)) = v_mk v_ty (v_ur S a f) R := v_mk_row (X := (0, fun _ => 0, (v_ty, [], fun _ _ _ => true, fun _ _ => none, fun _ _ _ _ _ => none), fun _ => True, S, R)) h S R f
/-- putfield of a number -/
theorem w_put {i len ci y a : Nat} {z : Int} {fs : List v_Ft} {b : Int × Int} {t : List Value} {v : Int32} (hen : M.2.2.2.2.2 pc = some ((.putfield i, len), ci, y, z)) (hg : v_ty a = some (.inr (.inr (ci, fs)))) (hf : fs[y]? = some (.inl b)) (hn : narrow (g_ty ci y) (.int v) = .int v) (hfit : fits (g_ty ci y) (.int v) = true) (k : w_T L xs d M (pc + len) lc t (v_ur S a (upd (S a) y v)) R Q) : w_T L xs d M pc lc (.int v :: .ref (a + 1) :: t) S R Q := by
  refine w_one hen ?_ k
  refine g_st_hp (en := ((.putfield i, len), ci, y, z)) rfl rfl rfl (q := (t, v_mk v_ty (v_ur S a (upd (S a) y v)) R)) ?_
  have g1 := w_ty hg S R
  have hl : y < (fs.mapIdx (fun j ft => v_fv S R a j ft)).length := by simpa using (List.getElem?_eq_some_iff.mp hf).1
  simp only [g_hp, g_pf, g1, v_cell]
  rw [if_pos ⟨trivial, hl, hn, hfit⟩, w_mkf hg hf]
/-- reads of rows -/
theorem w_iald {len x y a n : Nat} {z : Int} {b : Int × Int} {t : List Value} {i : Int32} (hen : M.2.2.2.2.2 pc = some ((.iaload, len), x, y, z)) (hg : v_ty a = some (.inl (0, n, b))) (h1 : 0 ≤ i.toInt) (h2 : i.toInt < (n : Int)) (k : w_T L xs d M (pc + len) lc (.int (S a i.toInt.toNat) :: t) S R Q) : w_T L xs d M pc lc (.int i :: .ref (a + 1) :: t) S R Q := by
  refine w_one hen ?_ k
  refine g_st_hp (en := ((.iaload, len), x, y, z)) rfl rfl rfl (q := (.int (S a i.toInt.toNat) :: t, v_mk v_ty S R)) ?_
  have g1 := w_ty hg S R
  obtain ⟨o1, o2⟩ := q_in32 h1 h2
  simp only [g_hp, g_ia, g1, v_cell, o1, o2, cond_false]
theorem w_bald {len x y a n tg : Nat} {z : Int} {b : Int × Int} {t : List Value} {i : Int32} (hen : M.2.2.2.2.2 pc = some ((.baload, len), x, y, z)) (hg : v_ty a = some (.inl (tg, n, b))) (htg : tg = 1 ∨ tg = 2) (h1 : 0 ≤ i.toInt) (h2 : i.toInt < (n : Int)) (k : w_T L xs d M (pc + len) lc (.int (S a i.toInt.toNat) :: t) S R Q) : w_T L xs d M pc lc (.int i :: .ref (a + 1) :: t) S R Q := by
  refine w_one hen ?_ k
  refine g_st_hp (en := ((.baload, len), x, y, z)) rfl rfl rfl (q := (.int (S a i.toInt.toNat) :: t, v_mk v_ty S R)) ?_
  have g1 := w_ty hg S R
  obtain ⟨o1, o2⟩ := q_in32 h1 h2
  rcases htg with rfl | rfl
  · simp only [g_hp, g_ba, g1, v_cell, o1, o2, cond_false]
  · simp only [g_hp, g_ba, g1, v_cell, o1, o2, cond_false]
/-- writes of rows -/
theorem w_iast {len x y a n : Nat} {z : Int} {b : Int × Int} {t : List Value} {i v : Int32} (hen : M.2.2.2.2.2 pc = some ((.iastore, len), x, y, z)) (hg : v_ty a = some (.inl (0, n, b))) (h1 : 0 ≤ i.toInt) (h2 : i.toInt < (n : Int)) (k : w_T L xs d M (pc + len) lc t (v_ur S a (upd (S a) i.toInt.toNat v)) R Q) : w_T L xs d M pc lc (.int v :: .int i :: .ref (a + 1) :: t) S R Q := by
  refine w_one hen ?_ k
  refine g_st_hp (en := ((.iastore, len), x, y, z)) rfl rfl rfl (q := (t, v_mk v_ty (v_ur S a (upd (S a) i.toInt.toNat v)) R)) ?_
  have g1 := w_ty hg S R
  obtain ⟨o1, o2⟩ := q_in32 h1 h2
  simp only [g_hp, g_is, g1, v_cell, o1, o2, cond_false]
  rw [w_mkr hg]
theorem w_bast {len x y a n tg : Nat} {z : Int} {b : Int × Int} {t : List Value} {i v : Int32} (hen : M.2.2.2.2.2 pc = some ((.bastore, len), x, y, z)) (hg : v_ty a = some (.inl (tg, n, b))) (htg : (tg = 1 ∧ vp_nar .byte v = v) ∨ (tg = 2 ∧ vp_nar .boolean v = v)) (h1 : 0 ≤ i.toInt) (h2 : i.toInt < (n : Int)) (k : w_T L xs d M (pc + len) lc t (v_ur S a (upd (S a) i.toInt.toNat v)) R Q) : w_T L xs d M pc lc (.int v :: .int i :: .ref (a + 1) :: t) S R Q := by
  refine w_one hen ?_ k
  refine g_st_hp (en := ((.bastore, len), x, y, z)) rfl rfl rfl (q := (t, v_mk v_ty (v_ur S a (upd (S a) i.toInt.toNat v)) R)) ?_
  have g1 := w_ty hg S R
  obtain ⟨o1, o2⟩ := q_in32 h1 h2
  rcases htg with ⟨rfl, hn⟩ | ⟨rfl, hn⟩
  · simp only [g_hp, g_bs, g1, v_cell, o1, o2, cond_false, hn]
    rw [w_mkr hg]
  · simp only [g_hp, g_bs, g1, v_cell, o1, o2, cond_false, hn]
    rw [w_mkr hg]
/-- a call of a static method -/
theorem w_cs {ix len x y d' : Nat} {z : Int} {M' : g_M} {ac rest : List Value} (hen : M.2.2.2.2.2 pc = some ((.invokestatic ix, len), x, y, z)) (hx : x < 77777) (hM : g_mt x = some M') (hc : ∀ σ, g_cl 0 y M'.1 sc σ = some (ac, rest)) (h1 : g_cat rest ≤ 8) (h2 : (lg_sl ac).length ≤ M'.2.2.2.1) (k : w_T L xs d' M' 0 (lv_args 0 ac) [] S R (fun r S1 R1 => w_T L xs (d' + 1) M (pc + 3) lc (r.toList ++ rest) S1 R1 Q)) : w_T L xs (d' + 1) M pc lc sc S R Q := by
  obtain ⟨n0, rv, S1, R1, a1, n1, rw1, S2, R2, b1, b2⟩ := k
  have hx9 : (x == 99999) = false := by simp; omega
  have h0 : g_step (d' + 1) M.2.2.2.1 L xs ((.invokestatic ix, len), x, y, z) pc lc sc (v_mk v_ty S R) = none := by
    show (match g_nv (d' + 1) x sc (v_mk v_ty S R) with
      | some q => _
      | none => none) = none
    rw [g_nv_none hx]
  refine ⟨n0 + n1 + 1, rw1, S2, R2, fun e => ?_, b2⟩
  rw [show n0 + n1 + 1 + e = n0 + (n1 + e) + 1 by omega]
  rw [g_run_call hen h0 rfl rfl hx9 hM (hc _) h1 h2 (a1 (n1 + e)), show n0 + (n1 + e) = n1 + (n0 + e) by omega]
  exact b1 _
/-- a call of a method of an object -/
theorem w_cv {ix len x y d' a ci : Nat} {z : Int} {M' : g_M} {q : vw_C} {fs : List v_Ft} {rest : List Value} (hen : M.2.2.2.2.2 pc = some ((.invokevirtual ix, len), x, y, z)) (hx : x < 77777) (hM : g_mt x = some M') (hg : v_ty a = some (.inr (.inr (ci, fs)))) (hq : vwCl[ci]? = some q) (how : q.1 = M'.1) (hdr : sc.drop y = .ref (a + 1) :: rest) (hle : y ≤ sc.length) (h1 : g_cat rest ≤ 8) (h2 : (lg_sl (.ref (a + 1) :: (sc.take y).reverse)).length ≤ M'.2.2.2.1) (k : w_T L xs d' M' 0 (lv_args 0 (.ref (a + 1) :: (sc.take y).reverse)) [] S R (fun r S1 R1 => w_T L xs (d' + 1) M (pc + 3) lc (r.toList ++ rest) S1 R1 Q)) : w_T L xs (d' + 1) M pc lc sc S R Q := by
  obtain ⟨n0, rv, S1, R1, a1, n1, rw1, S2, R2, b1, b2⟩ := k
  have hx9 : (x == 99999) = false := by simp; omega
  have g1 := w_ty hg S R
  have hc : g_cl 1 y M'.1 sc (v_mk v_ty S R) = some (.ref (a + 1) :: (sc.take y).reverse, rest) := by
    simp only [g_cl, hdr, g1, v_cell, hq]
    rw [if_pos ⟨how, hle⟩]
  refine ⟨n0 + n1 + 1, rw1, S2, R2, fun e => ?_, b2⟩
  rw [show n0 + n1 + 1 + e = n0 + (n1 + e) + 1 by omega]
  rw [g_run_call hen rfl rfl rfl hx9 hM hc h1 h2 (a1 (n1 + e)), show n0 + (n1 + e) = n1 + (n0 + e) by omega]
  exact b1 _
/-- a callee by its row -/
theorem w_met {x d' : Nat} {w : v_Rw} (hm : v_Met L xs v_ty v_Op x w) (hd : w.1 ≤ d') {M' : g_M} (hM : g_mt x = some M') {ac : List Value} (ha : q_al2 v_ac1 w.2.1 ac) (hT : v_Tb v_ty S R) (hO : v_Op S) (k : ∀ r S1 R1, v_Tb v_ty S1 R1 → v_Op S1 → v_rk1 w.2.2.1 r → v_Fr w.2.2.2 S R S1 R1 → Q r S1 R1) : w_T L xs d' M' 0 (lv_args 0 ac) [] S R Q := by
  obtain ⟨n, r, S', R', a1, a2, a3, a4, a5⟩ := hm M' hM ac S R ha hT hO
  exact ⟨n, r, S', R', fun e => g_run_d _ _ _ _ _ _ _ _ _ _ _ hd (a1 e), k r S' R' a2 a3 a4 a5⟩
theorem w_dm {d' : Nat} (hd : d ≤ d') (h : w_T L xs d M pc lc sc S R Q) : w_T L xs d' M pc lc sc S R Q := by
  obtain ⟨n, r, S', R', a1, a2⟩ := h
  exact ⟨n, r, S', R', fun e => g_run_d _ _ _ _ _ _ _ _ _ _ _ hd (a1 e), a2⟩
end WP
end Prt32
section Prt32b
/-! the order of the locals doesn't matter -/
noncomputable def g_nd (lc : g_Lc) : Prop := (lc.map (fun q => q.1)).Nodup
noncomputable def g_eqv (a b : g_Lc) : Prop := g_nd a ∧ g_nd b ∧ ∀ i, g_get a i = g_get b i
theorem g_get_cons (q : Nat × Value) (t : g_Lc) (i : Nat) : g_get (q :: t) i = if q.1 = i then some q.2 else g_get t i := by
  unfold g_get
  by_cases hq : q.1 = i
  · simp [hq]
  · simp [hq]
theorem g_get_none {i : Nat} : ∀ {lc : g_Lc}, i ∉ lc.map (fun q => q.1) → g_get lc i = none
  | [], _ => rfl
  | q :: t, h => by
    rw [g_get_cons]
    simp only [List.map_cons, List.mem_cons, not_or] at h
    rw [if_neg (fun e => h.1 e.symm)]
    exact g_get_none h.2
theorem g_get_fil {i j : Nat} (hj : j ≠ i) : ∀ {lc : g_Lc}, g_nd lc → g_get (lc.filter (fun q => !(q.1 == i) && !(q.1 + 1 == i && q.2.category == 2))) j = (g_get lc j).filter (fun w => !(decide (j + 1 = i) && w.category == 2))
  | [], _ => rfl
  | q :: t, h => by
    have h1 : q.1 ∉ t.map (fun q => q.1) := (List.nodup_cons.mp h).1
    have h2 : g_nd t := (List.nodup_cons.mp h).2
    have ih := g_get_fil hj h2
    rw [g_get_cons, List.filter_cons]
    by_cases hq : q.1 = j
    · rw [if_pos hq]
      have e1 : (q.1 == i) = false := by simpa [hq] using hj
      by_cases hc : (decide (j + 1 = i) && q.2.category == 2) = true
      · have e2 : (!(q.1 == i) && !(q.1 + 1 == i && q.2.category == 2)) = false := by
          rw [e1, hq]
          have e3 : (j + 1 == i) = decide (j + 1 = i) := by by_cases h9 : j + 1 = i <;> simp [h9]
          rw [e3, hc]
          rfl
        rw [e2, if_neg (by simp), ih]
        have e5 : g_get t j = none := by rw [← hq]; exact g_get_none h1
        rw [e5]
        simp [Option.filter, hc]
      · have hc : (decide (j + 1 = i) && q.2.category == 2) = false := by simpa using hc
        have e2 : (!(q.1 == i) && !(q.1 + 1 == i && q.2.category == 2)) = true := by
          rw [e1, hq]
          have e3 : (j + 1 == i) = decide (j + 1 = i) := by by_cases h9 : j + 1 = i <;> simp [h9]
          rw [e3, hc]
          rfl
        rw [e2, if_pos rfl, g_get_cons, if_pos hq]
        simp [Option.filter, hc]
    · rw [if_neg hq]
      split
      · rw [g_get_cons, if_neg hq]
        exact ih
      · exact ih
theorem g_get_set {lc : g_Lc} (h : g_nd lc) (i j : Nat) (v : Value) : g_get (g_set lc i v) j = if i = j then some v else (g_get lc j).filter (fun w => !(decide (j + 1 = i) && w.category == 2)) := by
  unfold g_set
  rw [g_get_cons]
  by_cases hj : i = j
  · rw [if_pos hj, if_pos hj]
  · rw [if_neg hj, if_neg hj]
    exact g_get_fil (fun e => hj e.symm) h
theorem g_nd_set {lc : g_Lc} (h : g_nd lc) (i : Nat) (v : Value) : g_nd (g_set lc i v) := by
  unfold g_nd g_set
  rw [List.map_cons, List.nodup_cons]
  constructor
  · intro hm
    obtain ⟨q, hq, e⟩ := List.mem_map.mp hm
    have := (List.mem_filter.mp hq).2
    simp only [Bool.and_eq_true, Bool.not_eq_true', beq_eq_false_iff_ne] at this
    exact this.1 e
  · exact List.Nodup.sublist (List.Sublist.map _ List.filter_sublist) h
theorem g_eqv_set {a b : g_Lc} (h : g_eqv a b) (i : Nat) (v : Value) : g_eqv (g_set a i v) (g_set b i v) := ⟨g_nd_set h.1 i v, g_nd_set h.2.1 i v, fun j => by rw [g_get_set h.1, g_get_set h.2.1, h.2.2 j]⟩
/-- both none, or both something alike -/
noncomputable def g_rel (a b : Option (g_Lc × List Value)) : Prop := match a, b with
  | none, none => True
  | some p, some q => g_eqv p.1 q.1 ∧ p.2 = q.2
  | _, _ => False
theorem g_lcl_eqv {a b : g_Lc} (h : g_eqv a b) (nL : Nat) (ins : Instr) (st : List Value) : g_rel (g_lcl nL ins a st) (g_lcl nL ins b st) := by
  have l1 : ∀ i, g_rel (g_ldi a i st) (g_ldi b i st) := by
    intro i
    unfold g_ldi
    rw [h.2.2 i]
    split <;> first | exact ⟨h, rfl⟩ | trivial
  have l2 : ∀ i, g_rel (g_lda a i st) (g_lda b i st) := by
    intro i
    unfold g_lda
    rw [h.2.2 i]
    split <;> first | exact ⟨h, rfl⟩ | trivial
  have l3 : ∀ i, g_rel (g_ldl a i st) (g_ldl b i st) := by
    intro i
    unfold g_ldl
    rw [h.2.2 i]
    split <;> first | exact ⟨h, rfl⟩ | trivial
  have l4 : ∀ i, g_rel (g_sti nL a i st) (g_sti nL b i st) := by
    intro i
    unfold g_sti
    split
    · split
      · exact ⟨g_eqv_set h _ _, rfl⟩
      · trivial
    · trivial
  have l5 : ∀ i, g_rel (g_sta nL a i st) (g_sta nL b i st) := by
    intro i
    unfold g_sta
    split
    · split
      · exact ⟨g_eqv_set h _ _, rfl⟩
      · trivial
    · split
      · exact ⟨g_eqv_set h _ _, rfl⟩
      · trivial
    · trivial
  have l6 : ∀ i n, g_rel (g_inc nL a i n st) (g_inc nL b i n st) := by
    intro i n
    unfold g_inc
    rw [h.2.2 i]
    split
    · split
      · exact ⟨g_eqv_set h _ _, rfl⟩
      · trivial
    · trivial
  cases ins <;> first | exact l1 _ | exact l2 _ | exact l3 _ | exact l4 _ | exact l5 _ | exact l6 _ _ | trivial
theorem g_run_lc (L : Nat) (xs : Nat → Int32) : ∀ (n d : Nat) (M : g_M) (pc : Nat) (a b : g_Lc) (st : List Value) (σ : List g_Ce), g_eqv a b → g_run g_mt L xs n d M pc a st σ = g_run g_mt L xs n d M pc b st σ := by
  intro n
  induction n with
  | zero => intro d M pc a b st σ _; rfl
  | succ n ih =>
    intro d M pc a b st σ h
    have hmac : g_mac d M pc a st = g_mac d M pc b st := by unfold g_mac; rw [h.2.2 2]
    have hst : (g_step d M.2.2.2.1 L xs · pc a st σ) = fun en => match g_stk en.1.1 en.2.2.2 st with
      | some st' => some (pc + en.1.2, a, st', σ)
      | none => match g_lcl M.2.2.2.1 en.1.1 a st with
        | some q => some (pc + en.1.2, q.1, q.2, σ)
        | none => match g_jmp en.1.1 pc en.2.1 st with
          | some q => some (q.1, a, q.2, σ)
          | none => match g_hp d L xs en.1.1 en.2.1 en.2.2.1 st σ with
            | some q => some (pc + en.1.2, a, q.1, q.2)
            | none => none := rfl
    rw [g_run, g_run, hmac]
    cases hen : M.2.2.2.2.2 pc with
    | none =>
      dsimp only
      split
      · exact ih _ _ _ _ _ _ _ h
      · rfl
    | some en =>
      dsimp only
      have hr := g_lcl_eqv h M.2.2.2.1 en.1.1 st
      cases h1 : g_stk en.1.1 en.2.2.2 st with
      | some st' =>
        rw [g_st_stk h1, g_st_stk h1]
        exact ih _ _ _ _ _ _ _ h
      | none =>
        cases h2 : g_lcl M.2.2.2.1 en.1.1 a st with
        | some p =>
          rw [h2] at hr
          cases h3 : g_lcl M.2.2.2.1 en.1.1 b st with
          | none => rw [h3] at hr; exact hr.elim
          | some q =>
            rw [h3] at hr
            rw [g_st_lcl h1 h2, g_st_lcl h1 h3]
            dsimp only
            rw [hr.2]
            exact ih _ _ _ _ _ _ _ hr.1
        | none =>
          rw [h2] at hr
          cases h3 : g_lcl M.2.2.2.1 en.1.1 b st with
          | some q => rw [h3] at hr; exact hr.elim
          | none =>
            cases h4 : g_jmp en.1.1 pc en.2.1 st with
            | some q =>
              rw [g_st_jmp h1 h2 h4, g_st_jmp h1 h3 h4]
              exact ih _ _ _ _ _ _ _ h
            | none =>
              cases h5 : g_hp d L xs en.1.1 en.2.1 en.2.2.1 st σ with
              | some q =>
                rw [g_st_hp h1 h2 h4 h5, g_st_hp h1 h3 h4 h5]
                exact ih _ _ _ _ _ _ _ h
              | none =>
                have e1 : g_step d M.2.2.2.1 L xs en pc a st σ = none := by simp only [g_step, h1, h2, h4, h5]
                have e2 : g_step d M.2.2.2.1 L xs en pc b st σ = none := by simp only [g_step, h1, h3, h4, h5]
                rw [e1, e2]
                dsimp only
                cases g_rt en.1.1 M.2.2.2.2.1 st with
                | some r => rfl
                | none =>
                  dsimp only
                  cases g_ki en.1.1 with
                  | none => rfl
                  | some k =>
                    dsimp only
                    cases d with
                    | zero => rfl
                    | succ d' =>
                      dsimp only
                      cases (en.2.1 == 99999) with
                      | true =>
                        dsimp only [cond_true]
                        split
                        · exact ih _ _ _ _ _ _ _ h
                        · rfl
                      | false =>
                        dsimp only [cond_false]
                        split
                        · rfl
                        · split
                          · rfl
                          · simp only [cond_eq_ite]
                            split
                            · split
                              · rfl
                              · exact ih _ _ _ _ _ _ _ h
                            · rfl
theorem w_lc {L : Nat} {xs : Nat → Int32} {d : Nat} {M : g_M} {pc : Nat} {a b : g_Lc} {sc : List Value} {S : v_Sf} {R : v_Rf} {Q : Option Value → v_Sf → v_Rf → Prop} (h1 : g_nd a) (h2 : g_nd b) (h3 : ∀ i, g_get a i = g_get b i) (k : w_T L xs d M pc b sc S R Q) : w_T L xs d M pc a sc S R Q := by
  obtain ⟨n, r, S', R', k1, k2⟩ := k
  exact ⟨n, r, S', R', fun e => by rw [g_run_lc L xs _ _ _ _ a b _ _ ⟨h1, h2, h3⟩]; exact k1 e, k2⟩
end Prt32b
section Prt33
/-! sizeOf, has, takesSome, takesPlaces, bitCount -/
noncomputable def v_fsM : List v_Ft := [.inr (.inl 101), .inl (0, 260), .inl (0, 65535), .inl (0, 1000), .inl (0, 260), .inl ((-2147483648), 2147483647), .inl (0, 16), .inl (0, 240), .inl ((-2147483648), 2147483647), .inl (0, 240), .inr (.inl 102), .inr (.inl 103), .inr (.inl 104), .inr (.inl 105), .inr (.inl 106), .inr (.inl 107), .inl (0, 16), .inl (0, 12), .inr (.inl 108), .inr (.inl 109), .inr (.inl 110), .inr (.inl 111), .inr (.inl 112), .inr (.inl 113), .inl (0, 1), .inl (0, 1), .inr (.inl 114), .inl ((-2147483648), 2147483647), .inl ((-2147483648), 2147483647), .inl ((-2147483648), 2147483647), .inl ((-2147483648), 2147483647), .inl ((-2147483648), 2147483647), .inl ((-2147483648), 2147483647), .inl ((-2147483648), 2147483647), .inl ((-2147483648), 2147483647), .inl ((-2147483648), 2147483647), .inl ((-2147483648), 2147483647), .inl ((-2147483648), 2147483647), .inl ((-2147483648), 2147483647), .inl ((-2147483648), 2147483647), .inl ((-2147483648), 2147483647), .inr (.inl 115), .inr (.inl 116), .inr (.inl 117), .inr (.inl 118), .inr (.inl 119), .inr (.inl 120), .inr (.inl 121), .inr (.inl 122), .inr (.inl 123), .inr (.inl 124), .inr (.inl 125), .inr (.inl 126), .inr (.inl 127), .inr (.inl 128), .inr (.inl 129), .inr (.inl 130), .inr (.inl 131), .inr (.inl 132), .inr (.inl 133), .inl (0, 9999), .inl ((-2147483648), 2147483647), .inl ((-2147483648), 2147483647), .inr (.inl 134), .inl (0, 48), .inl (0, 2), .inl (0, 1), .inr (.inl 135), .inr (.inl 136), .inr (.inl 137), .inl ((-2147483648), 2147483647), .inl ((-2147483648), 2147483647), .inl ((-2147483648), 2147483647), .inl ((-2147483648), 2147483647), .inl ((-2147483648), 2147483647), .inl ((-2147483648), 2147483647), .inl ((-2147483648), 2147483647), .inr (.inl 138), .inr (.inl 139), .inr (.inl 140), .inr (.inl 141), .inr (.inl 142), .inr (.inl 143), .inr (.inl 144), .inr (.inl 145), .inr (.inl 146), .inr (.inl 147), .inr (.inl 148), .inr (.inl 149), .inr (.inl 150), .inr (.inl 151), .inr (.inl 152), .inl (0, 1), .inr (.inl 153), .inr (.inl 154), .inr (.inl 155), .inr (.inl 156), .inr (.inl 157), .inr (.inl 158), .inr (.inl 159), .inl ((-2147483648), 2147483647), .inl ((-2147483648), 2147483647), .inl ((-2147483648), 2147483647), .inl ((-2147483648), 2147483647), .inr (.inl 160), .inr (.inl 161), .inr (.inl 162), .inl (0, 10), .inr (.inl 163), .inr (.inl 164), .inr (.inl 165), .inr (.inl 166), .inr (.inl 167), .inr (.inl 168), .inr (.inl 169), .inr (.inl 170), .inr (.inl 171), .inr (.inl 172), .inr (.inl 173)]
theorem v_tyM : v_ty 99 = some (.inr (.inr (12, v_fsM))) := rfl
noncomputable abbrev m_X12_sizeOf : g_M := (g_cn 12, yX12_sizeOf, cX12_sizeOf, 3, (some .int), g_look2 ttX12_sizeOf)
set_option maxRecDepth 20000 in
theorem mt_X12_sizeOf : g_mt 162 = some m_X12_sizeOf := rfl
noncomputable abbrev m_X12_has : g_M := (g_cn 12, yX12_has, cX12_has, 2, (some .boolean), g_look2 ttX12_has)
set_option maxRecDepth 20000 in
theorem mt_X12_has : g_mt 161 = some m_X12_has := rfl
noncomputable abbrev m_X12_takesSome : g_M := (g_cn 12, yX12_takesSome, cX12_takesSome, 4, (some .int), g_look2 ttX12_takesSome)
set_option maxRecDepth 20000 in
theorem mt_X12_takesSome : g_mt 251 = some m_X12_takesSome := rfl
noncomputable abbrev m_X12_takesPlaces : g_M := (g_cn 12, yX12_takesPlaces, cX12_takesPlaces, 4, (some .int), g_look2 ttX12_takesPlaces)
set_option maxRecDepth 20000 in
theorem mt_X12_takesPlaces : g_mt 256 = some m_X12_takesPlaces := rfl
noncomputable abbrev m_J6_bitCount_0f7a4 : g_M := (g_cn 14, yJ6_bitCount_0f7a4, cJ6_bitCount_0f7a4, 1, (some .int), g_look2 ttJ6_bitCount_0f7a4)
set_option maxRecDepth 20000 in
theorem mt_J6_bitCount_0f7a4 : g_mt 299 = some m_J6_bitCount_0f7a4 := rfl
theorem v_popN_s : ∀ (f n : Nat), v_popN (f + 1) n = v_popN f n + n / 2 ^ f % 2
  | 0, n => by simp [v_popN]
  | f + 1, n => by
    show n % 2 + v_popN (f + 1) (n / 2) = n % 2 + v_popN f (n / 2) + n / 2 ^ (f + 1) % 2
    rw [v_popN_s f (n / 2), Nat.div_div_eq_div_mul, Nat.pow_succ, Nat.mul_comm 2 (2 ^ f)]
    omega
theorem v_popN_big : ∀ (k f n : Nat), n < 2 ^ f → v_popN (f + k) n = v_popN f n
  | 0, f, n, _ => rfl
  | k + 1, f, n, h => by
    show v_popN ((f + k) + 1) n = v_popN f n
    rw [v_popN_s, v_popN_big k f n h]
    have : n < 2 ^ (f + k) := Nat.lt_of_lt_of_le h (Nat.pow_le_pow_right (by omega) (by omega))
    rw [Nat.div_eq_of_lt this]
    rfl
theorem v_and2 (a b : Nat) : (a &&& b) / 2 = (a / 2) &&& (b / 2) := by
  have := Nat.and_div_two_pow (a := a) (b := b) (n := 1)
  simpa using this
theorem v_andm (a b : Nat) : (a &&& b) % 2 = (a % 2) &&& (b % 2) := by
  have := Nat.and_mod_two_pow (a := a) (b := b) (n := 1)
  simpa using this
theorem v_popN_and : ∀ (f a b : Nat), v_popN f (a &&& b) ≤ v_popN f a
  | 0, _, _ => Nat.le_refl _
  | f + 1, a, b => by
    show (a &&& b) % 2 + v_popN f ((a &&& b) / 2) ≤ a % 2 + v_popN f (a / 2)
    have h1 := v_popN_and f (a / 2) (b / 2)
    rw [v_and2, v_andm]
    have h2 : (a % 2) &&& (b % 2) ≤ a % 2 := Nat.and_le_left
    omega
theorem v_popN_dec : ∀ (f n : Nat), 0 < n → n < 2 ^ f → v_popN f (n &&& (n - 1)) + 1 = v_popN f n
  | 0, n, h1, h2 => by simp at h2; omega
  | f + 1, n, h1, h2 => by
    show (n &&& (n - 1)) % 2 + v_popN f ((n &&& (n - 1)) / 2) + 1 = n % 2 + v_popN f (n / 2)
    rw [v_and2, v_andm]
    by_cases hn : n % 2 = 0
    · have e1 : (n - 1) / 2 = n / 2 - 1 := by omega
      have ih := v_popN_dec f (n / 2) (by omega) (by rw [Nat.pow_succ] at h2; omega)
      rw [e1, hn, Nat.zero_and]
      omega
    · have e1 : (n - 1) / 2 = n / 2 := by omega
      have e2 : (n - 1) % 2 = 0 := by omega
      have e3 : n % 2 = 1 := by omega
      rw [e1, e2, e3, Nat.and_zero, Nat.and_self]
      omega
section HS
variable {L : Nat} {xs : Nat → Int32} {d : Nat} {S : v_Sf} {R : v_Rf} {Q : Option Value → v_Sf → v_Rf → Prop}
theorem h_sizeOf1 (a v n : Int32) (k1 : v = 0 → Q (some (.int n)) S R) (k2 : ¬ v = 0 → w_T L xs d m_X12_sizeOf 4 [(2, .int (v &&& (v - 1))), (1, .int (n + 1)), (0, .int a)] [] S R Q) : w_T L xs d m_X12_sizeOf 4 [(2, .int v), (1, .int n), (0, .int a)] [] S R Q := by
  refine w_st rfl (fun _ => rfl) ?_
  show w_T L xs d m_X12_sizeOf 5 [(2, .int v), (1, .int n), (0, .int a)] [.int v] S R Q
  refine w_br (P := v = 0) rfl (fun _ => rfl) (fun h5 => ?_) (fun h5 => ?_)
  · refine w_st rfl (fun _ => rfl) ?_
    show w_T L xs d m_X12_sizeOf 21 [(2, .int v), (1, .int n), (0, .int a)] [.int n] S R Q
    refine w_ret rfl rfl ?_
    exact k1 h5
  · refine w_st rfl (fun _ => rfl) ?_
    refine w_st rfl (fun _ => rfl) ?_
    refine w_st rfl (fun _ => rfl) ?_
    refine w_st rfl (fun _ => rfl) ?_
    refine w_st rfl (fun _ => rfl) ?_
    refine w_st rfl (fun _ => rfl) ?_
    refine w_st rfl (fun _ => rfl) ?_
    refine w_st rfl (fun _ => rfl) ?_
    show w_T L xs d m_X12_sizeOf 4 [(2, .int (v &&& (v - (Int32.ofInt 1)))), (1, .int (n + Int32.ofInt 1)), (0, .int a)] [] S R Q
    exact k2 h5
theorem h_sizeOf2 (a : Int32) : ∀ (m : Nat) (v : Int32) (n : Nat), v_popN 32 v.toBitVec.toNat = m → Q (some (.int (Int32.ofInt ((n + m : Nat) : Int)))) S R → w_T L xs d m_X12_sizeOf 4 [(2, .int v), (1, .int (Int32.ofInt (n : Int))), (0, .int a)] [] S R Q := by
  intro m
  induction m with
  | zero =>
    intro v n hm hq
    refine h_sizeOf1 a v _ (fun _ => hq) (fun hv => ?_)
    exfalso
    have h1 : 0 < v.toBitVec.toNat := by
      rcases Nat.eq_zero_or_pos v.toBitVec.toNat with h | h
      · exact absurd (Int32.toBitVec_inj.mp (BitVec.eq_of_toNat_eq h)) hv
      · exact h
    have := v_popN_pos 32 _ v.toBitVec.isLt h1
    omega
  | succ m ih =>
    intro v n hm hq
    refine h_sizeOf1 a v _ (fun hv => ?_) (fun hv => ?_)
    · subst hv
      have : v_popN 32 (0 : Int32).toBitVec.toNat = 0 := by decide
      omega
    · have h1 : 0 < v.toBitVec.toNat := by
        rcases Nat.eq_zero_or_pos v.toBitVec.toNat with h | h
        · exact absurd (Int32.toBitVec_inj.mp (BitVec.eq_of_toNat_eq h)) hv
        · exact h
      have e1 : (v &&& (v - 1)).toBitVec.toNat = v.toBitVec.toNat &&& (v.toBitVec.toNat - 1) := by
        rw [Int32.toBitVec_and, BitVec.toNat_and, Int32.toBitVec_sub, BitVec.toNat_sub]
        have e : (1 : Int32).toBitVec.toNat = 1 := rfl
        rw [e]
        have hl := v.toBitVec.isLt
        have e8 : (2 ^ 32 - 1 + v.toBitVec.toNat) % 2 ^ 32 = v.toBitVec.toNat - 1 := by omega
        rw [e8]
      have e2 := v_popN_dec 32 v.toBitVec.toNat h1 v.toBitVec.isLt
      have e3 : Int32.ofInt (n : Int) + 1 = Int32.ofInt ((n + 1 : Nat) : Int) := by
        have : (1 : Int32) = Int32.ofInt 1 := rfl
        rw [this, ← Int32.ofInt_add]
        rfl
      rw [e3]
      refine ih (v &&& (v - 1)) (n + 1) (by rw [e1]; omega) ?_
      rw [show n + 1 + m = n + (m + 1) by omega]
      exact hq
theorem h_sizeOf (v : Int32) (hq : Q (some (.int (v_pop v))) S R) : w_T L xs d m_X12_sizeOf 0 (lv_args 0 [.int v]) [] S R Q := by
  refine w_st rfl (fun _ => rfl) ?_
  refine w_st rfl (fun _ => rfl) ?_
  refine w_st rfl (fun _ => rfl) ?_
  refine w_st rfl (fun _ => rfl) ?_
  show w_T L xs d m_X12_sizeOf 4 [(2, .int v), (1, .int (Int32.ofInt 0)), (0, .int v)] [] S R Q
  refine h_sizeOf2 v _ v 0 rfl ?_
  rw [Nat.zero_add]
  exact hq
theorem h_has (s g : Int32) (hq : Q (some (.int (if (s >>> (g &&& 31)) &&& 1 = 1 then 1 else 0))) S R) : w_T L xs d m_X12_has 0 (lv_args 0 [.int s, .int g]) [] S R Q := by
  refine w_st rfl (fun _ => rfl) ?_
  refine w_st rfl (fun _ => rfl) ?_
  refine w_st rfl (fun _ => rfl) ?_
  refine w_st rfl (fun _ => rfl) ?_
  refine w_st rfl (fun _ => rfl) ?_
  refine w_st rfl (fun _ => rfl) ?_
  show w_T L xs d m_X12_has 6 [(0, .int s), (1, .int g)] [.int (Int32.ofInt 1), .int ((s >>> (g &&& 31)) &&& (Int32.ofInt 1))] S R Q
  refine w_br (P := ¬ ((s >>> (g &&& 31)) &&& (Int32.ofInt 1)) = (Int32.ofInt 1)) rfl (fun _ => rfl) (fun h6 => ?_) (fun h6 => ?_)
  · have h6 : ¬ (s >>> (g &&& 31)) &&& 1 = 1 := h6
    refine w_st rfl (fun _ => rfl) ?_
    show w_T L xs d m_X12_has 14 [(0, .int s), (1, .int g)] [.int (Int32.ofInt 0)] S R Q
    refine w_ret rfl (by rfl) ?_
    first | (rw [if_neg h6] at hq; exact hq) | (rw [if_pos (Decidable.of_not_not h6)] at hq; exact hq)
  · have h6 : ¬ ¬ (s >>> (g &&& 31)) &&& 1 = 1 := h6
    refine w_st rfl (fun _ => rfl) ?_
    refine w_st rfl (fun _ => rfl) ?_
    show w_T L xs d m_X12_has 14 [(0, .int s), (1, .int g)] [.int (Int32.ofInt 1)] S R Q
    refine w_ret rfl (by rfl) ?_
    first | (rw [if_neg h6] at hq; exact hq) | (rw [if_pos (Decidable.of_not_not h6)] at hq; exact hq)
theorem v_sm31 : ∀ k : Fin 32, ((Int32.ofInt ((k : Nat) : Int) &&& 31).toBitVec.smod 32).toNat = (k : Nat) := by decide
theorem h_bit (s g : Int32) (h1 : 0 ≤ s.toInt) (h2 : 0 ≤ g.toInt) (h3 : g.toInt ≤ 31) : (if (s >>> (g &&& 31)) &&& 1 = 1 then (1 : Int32) else 0) = Int32.ofInt ((s.toInt.toNat / 2 ^ g.toInt.toNat % 2 : Nat) : Int) := by
  have eg : g = Int32.ofInt ((g.toInt.toNat : Nat) : Int) := by
    rw [show ((g.toInt.toNat : Nat) : Int) = g.toInt by omega, q_of]
  have hk := v_sm31 ⟨g.toInt.toNat, by omega⟩
  dsimp only at hk
  rw [← eg] at hk
  have ew : (s >>> (g &&& 31)).toInt = s.toInt / ((2 ^ g.toInt.toNat : Nat) : Int) := by
    show (s >>> (g &&& 31)).toBitVec.toInt = _
    rw [Int32.toBitVec_shiftRight, BitVec.sshiftRight_eq', BitVec.toInt_sshiftRight, hk, Int.shiftRight_eq_div_pow]
    rfl
  have hw := v_shr_ok (x := s) (g &&& 31) h1
  generalize s >>> (g &&& 31) = w at ew hw ⊢
  obtain ⟨e1, l1⟩ := v_nn (x := w) hw.1
  have e2 : w.toBitVec.toNat = s.toInt.toNat / 2 ^ g.toInt.toNat := by
    have e3 : s.toInt = ((s.toInt.toNat : Nat) : Int) := by omega
    rw [e3, ← Int.natCast_ediv] at ew
    omega
  have e4 : (w &&& 1).toBitVec.toNat = w.toBitVec.toNat % 2 := by
    rw [Int32.toBitVec_and, BitVec.toNat_and]
    exact Nat.and_one_is_mod _
  rw [← e2]
  by_cases hm : w.toBitVec.toNat % 2 = 0
  · rw [hm] at e4
    have : w &&& 1 = 0 := Int32.toBitVec_inj.mp (BitVec.eq_of_toNat_eq e4)
    rw [this, hm, if_neg (by decide)]
    rfl
  · have hm1 : w.toBitVec.toNat % 2 = 1 := by omega
    rw [hm1] at e4
    have : w &&& 1 = 1 := Int32.toBitVec_inj.mp (BitVec.eq_of_toNat_eq e4)
    rw [this, hm1, if_pos rfl]
    rfl
end HS
end Prt33
section Prt34
/-! takesSome, takesPlaces; the hooks that are proved by hand tell the truth -/
theorem w_nat {k : Nat} (h : k < 2000000000) : (Int32.ofInt (k : Int)).toInt = (k : Int) := q_ofr (by omega) (by omega)
theorem w_inc (k : Nat) : Int32.ofInt (k : Int) + Int32.ofInt 1 = Int32.ofInt ((k + 1 : Nat) : Int) := by rw [← Int32.ofInt_add]; rfl
theorem w_TbR {S : v_Sf} {R : v_Rf} (hT : v_Tb v_ty S R) {a tg n : Nat} {lo hi : Int} (hg : v_ty a = some (.inl (tg, n, lo, hi))) {j : Nat} {v : Int32} (h1 : lo ≤ v.toInt) (h2 : v.toInt ≤ hi) : v_Tb v_ty (v_ur S a (upd (S a) j v)) R := by
  have hT1 : v_TbC S R a _ := hT a _ hg
  refine v_Tb_row (X := (0, fun _ => 0, (v_ty, [], fun _ _ _ => true, fun _ _ => none, fun _ _ _ _ _ => none), fun _ => True, S, R)) hT hg (fun i hi' => ?_)
  by_cases hj : i = j
  · rw [upd, if_pos hj]; exact ⟨h1, h2⟩
  · rw [upd, if_neg hj]; exact hT1 i hi'
theorem w_TbF {S : v_Sf} {R : v_Rf} (hT : v_Tb v_ty S R) {a ci y : Nat} {fs : List v_Ft} {b : Int × Int} (hg : v_ty a = some (.inr (.inr (ci, fs)))) (hy : fs[y]? = some (.inl b)) {v : Int32} (h1 : b.1 ≤ v.toInt) (h2 : v.toInt ≤ b.2) : v_Tb v_ty (v_ur S a (upd (S a) y v)) R := v_Tb_fld (X := (0, fun _ => 0, (v_ty, [], fun _ _ _ => true, fun _ _ => none, fun _ _ _ _ _ => none), fun _ => True, S, R)) hT hg hy h1 h2
theorem w_urn {S : v_Sf} {a j : Nat} {v : Int32} {a' j' : Nat} (h : ¬ (a' = a ∧ j' = j)) : v_ur S a (upd (S a) j v) a' j' = S a' j' := by
  by_cases ha : a' = a
  · subst ha
    rw [v_ur_s]
    have : j' ≠ j := fun e => h ⟨rfl, e⟩
    simp [upd, this]
  · rw [v_ur_n _ _ ha]
theorem w_urs {S : v_Sf} {a j : Nat} {v : Int32} : v_ur S a (upd (S a) j v) a j = v := by
  rw [v_ur_s]
  simp [upd]
section HT
variable {L : Nat} {xs : Nat → Int32} {d : Nat} {R : v_Rf} {Q : Option Value → v_Sf → v_Rf → Prop}
theorem h_X12_takesSome1 (sI : Int32) (hs : 0 ≤ sI.toInt) : ∀ (m g : Nat) (S : v_Sf), g + m = 12 → v_Tb v_ty S R → (∀ S', v_Tb v_ty S' R → (∀ a j, ¬ (a = 152 ∧ j ≤ 12) → S' a j = S a j) → Q (some (.int (Int32.ofInt ((v_popN 12 sI.toInt.toNat : Nat) : Int)))) S' R) → w_T L xs (d + 1) m_X12_takesSome 4 [(3, .int (Int32.ofInt (g : Int))), (2, .int (Int32.ofInt ((v_popN g sI.toInt.toNat : Nat) : Int))), (0, .ref 100), (1, .int sI)] [] S R Q := by
  intro m
  induction m with
  | zero =>
    intro g S hg hT hq
    have eg := w_nat (k := g) (by omega)
    have e12 : (Int32.ofInt 12).toInt = 12 := by decide
    refine w_st rfl (fun _ => rfl) ?_
    refine w_st rfl (fun _ => rfl) ?_
    show w_T L xs (d + 1) m_X12_takesSome 7 [(3, .int (Int32.ofInt (g : Int))), (2, .int (Int32.ofInt ((v_popN g sI.toInt.toNat : Nat) : Int))), (0, .ref 100), (1, .int sI)] [.int (Int32.ofInt 12), .int (Int32.ofInt (g : Int))] S R Q
    refine w_br (P := (Int32.ofInt 12) ≤ (Int32.ofInt (g : Int))) rfl (fun _ => rfl) (fun h7 => ?_) (fun h7 => ?_)
    · refine w_st rfl (fun _ => rfl) ?_
      show w_T L xs (d + 1) m_X12_takesSome 38 [(3, .int (Int32.ofInt (g : Int))), (2, .int (Int32.ofInt ((v_popN g sI.toInt.toNat : Nat) : Int))), (0, .ref 100), (1, .int sI)] [.int (Int32.ofInt ((v_popN g sI.toInt.toNat : Nat) : Int))] S R Q
      refine w_ret rfl rfl ?_
      have e : g = 12 := by omega
      subst e
      exact hq S hT (fun _ _ _ => rfl)
    · exfalso; rw [q_le32, e12, eg] at h7; omega
  | succ m ih =>
    intro g S hg hT hq
    have eg := w_nat (k := g) (by omega)
    have e12 : (Int32.ofInt 12).toInt = 12 := by decide
    have hle := v_popN_f g sI.toInt.toNat
    have en := w_nat (k := v_popN g sI.toInt.toNat) (by omega)
    have hps := v_popN_s g sI.toInt.toNat
    have egn : (Int32.ofInt (g : Int)).toInt.toNat = g := by rw [eg]; omega
    have hbit := h_bit sI (Int32.ofInt (g : Int)) hs (by omega) (by omega)
    rw [egn] at hbit
    refine w_st rfl (fun _ => rfl) ?_
    refine w_st rfl (fun _ => rfl) ?_
    show w_T L xs (d + 1) m_X12_takesSome 7 [(3, .int (Int32.ofInt (g : Int))), (2, .int (Int32.ofInt ((v_popN g sI.toInt.toNat : Nat) : Int))), (0, .ref 100), (1, .int sI)] [.int (Int32.ofInt 12), .int (Int32.ofInt (g : Int))] S R Q
    refine w_br (P := (Int32.ofInt 12) ≤ (Int32.ofInt (g : Int))) rfl (fun _ => rfl) (fun h7 => ?_) (fun h7 => ?_)
    · exfalso; rw [q_le32, e12, eg] at h7; omega
    · refine w_st rfl (fun _ => rfl) ?_
      refine w_st rfl (fun _ => rfl) ?_
      show w_T L xs (d + 1) m_X12_takesSome 12 [(3, .int (Int32.ofInt (g : Int))), (2, .int (Int32.ofInt ((v_popN g sI.toInt.toNat : Nat) : Int))), (0, .ref 100), (1, .int sI)] [.int (Int32.ofInt (g : Int)), .int sI] S R Q
      refine w_cs rfl (by decide) mt_X12_has (fun _ => rfl) (Nat.le_of_ble_eq_true rfl) (Nat.le_of_ble_eq_true rfl) ?_
      show w_T L xs _ m_X12_has 0 (lv_args 0 [.int sI, .int (Int32.ofInt (g : Int))]) [] S R _
      refine h_has sI _ ?_
      rw [hbit]
      show w_T L xs (d + 1) m_X12_takesSome 15 [(3, .int (Int32.ofInt (g : Int))), (2, .int (Int32.ofInt ((v_popN g sI.toInt.toNat : Nat) : Int))), (0, .ref 100), (1, .int sI)] [.int (Int32.ofInt ((sI.toInt.toNat / 2 ^ g % 2 : Nat) : Int))] S R Q
      refine w_br (P := ¬ (Int32.ofInt ((sI.toInt.toNat / 2 ^ g % 2 : Nat) : Int)) = 0) rfl (fun _ => rfl) (fun h15 => ?_) (fun h15 => ?_)
      · have hz : sI.toInt.toNat / 2 ^ g % 2 = 1 := by
          have : ¬ sI.toInt.toNat / 2 ^ g % 2 = 0 := fun e => h15 (by rw [e]; rfl)
          omega
        refine w_st rfl (fun _ => rfl) ?_
        show w_T L xs (d + 1) m_X12_takesSome 22 [(3, .int (Int32.ofInt (g : Int))), (2, .int (Int32.ofInt ((v_popN g sI.toInt.toNat : Nat) : Int))), (0, .ref 100), (1, .int sI)] [.ref 100] S R Q
        refine w_getr rfl v_tyM rfl ?_
        refine w_st rfl (fun _ => rfl) ?_
        refine w_st rfl (fun _ => rfl) ?_
        show w_T L xs (d + 1) m_X12_takesSome 27 [(3, .int (Int32.ofInt (g : Int))), (2, .int (Int32.ofInt ((v_popN g sI.toInt.toNat : Nat) : Int))), (0, .ref 100), (1, .int sI)] [.int (Int32.ofInt (g : Int)), .int (Int32.ofInt ((v_popN g sI.toInt.toNat : Nat) : Int)), .ref 153] S R Q
        refine w_iast rfl rfl (by rw [en]; omega) (by rw [en]; omega) ?_
        refine w_st rfl (fun _ => rfl) ?_
        refine w_st rfl (fun _ => rfl) ?_
        refine w_st rfl (fun _ => rfl) ?_
        show w_T L xs (d + 1) m_X12_takesSome 4 [(3, .int ((Int32.ofInt (g : Int)) + Int32.ofInt 1)), (2, .int ((Int32.ofInt ((v_popN g sI.toInt.toNat : Nat) : Int)) + Int32.ofInt 1)), (0, .ref 100), (1, .int sI)] [] (v_ur S 152 (upd (S 152) (Int32.ofInt ((v_popN g sI.toInt.toNat : Nat) : Int)).toInt.toNat (Int32.ofInt (g : Int)))) R Q
        have e1 : Int32.ofInt ((v_popN g sI.toInt.toNat : Nat) : Int) + Int32.ofInt 1 = Int32.ofInt ((v_popN (g + 1) sI.toInt.toNat : Nat) : Int) := by rw [w_inc, hps, hz]
        rw [e1, w_inc]
        refine ih (g + 1) _ (by omega) (w_TbR hT (a := 152) rfl (by omega) (by omega)) (fun S' h1 h2 => hq S' h1 (fun a j hj => ?_))
        rw [h2 a j hj]
        exact w_urn (fun e => hj ⟨e.1, by rw [e.2, en]; omega⟩)
      · have hz : sI.toInt.toNat / 2 ^ g % 2 = 0 := by
          have h16 := Decidable.of_not_not h15
          have := congrArg Int32.toInt h16
          rw [w_nat (by omega)] at this
          have z0 : (0 : Int32).toInt = 0 := rfl
          omega
        refine w_st rfl (fun _ => rfl) ?_
        refine w_st rfl (fun _ => rfl) ?_
        refine w_st rfl (fun _ => rfl) ?_
        show w_T L xs (d + 1) m_X12_takesSome 4 [(3, .int ((Int32.ofInt (g : Int)) + Int32.ofInt 1)), (2, .int (Int32.ofInt ((v_popN g sI.toInt.toNat : Nat) : Int))), (0, .ref 100), (1, .int sI)] [] S R Q
        have e1 : v_popN g sI.toInt.toNat = v_popN (g + 1) sI.toInt.toNat := by omega
        rw [w_inc]
        have e2 := ih (g + 1) S (by omega) hT hq
        rw [← e1] at e2
        exact e2
theorem h_X12_takesSome (sI : Int32) (S : v_Sf) (hs : 0 ≤ sI.toInt) (hs2 : sI.toInt < 4096) (hT : v_Tb v_ty S R) (hq : ∀ S', v_Tb v_ty S' R → (∀ a j, ¬ (a = 152 ∧ j ≤ 12) → S' a j = S a j) → Q (some (.int (v_pop sI))) S' R) : w_T L xs (d + 1) m_X12_takesSome 0 (lv_args 0 [.ref 100, .int sI]) [] S R Q := by
  have e0 : v_pop sI = Int32.ofInt ((v_popN 12 sI.toInt.toNat : Nat) : Int) := by
    obtain ⟨e1, l1⟩ := v_nn hs
    have e2 : sI.toInt.toNat = sI.toBitVec.toNat := by omega
    have e3 : v_popN (12 + 20) sI.toBitVec.toNat = v_popN 12 sI.toBitVec.toNat := v_popN_big 20 12 sI.toBitVec.toNat (by omega)
    rw [e2, ← e3]
    rfl
  rw [e0] at hq
  refine w_st rfl (fun _ => rfl) ?_
  refine w_st rfl (fun _ => rfl) ?_
  refine w_st rfl (fun _ => rfl) ?_
  refine w_st rfl (fun _ => rfl) ?_
  show w_T L xs (d + 1) m_X12_takesSome 4 [(3, .int (Int32.ofInt 0)), (2, .int (Int32.ofInt 0)), (0, .ref 100), (1, .int sI)] [] S R Q
  exact h_X12_takesSome1 sI hs 12 0 S rfl hT hq
theorem h_X12_takesPlaces1 (sI : Int32) (hs : 0 ≤ sI.toInt) : ∀ (m g : Nat) (S : v_Sf), g + m = 6 → v_Tb v_ty S R → (∀ S', v_Tb v_ty S' R → (∀ a j, ¬ (a = 153 ∧ j ≤ 6) → S' a j = S a j) → Q (some (.int (Int32.ofInt ((v_popN 6 sI.toInt.toNat : Nat) : Int)))) S' R) → w_T L xs (d + 1) m_X12_takesPlaces 4 [(3, .int (Int32.ofInt (g : Int))), (2, .int (Int32.ofInt ((v_popN g sI.toInt.toNat : Nat) : Int))), (0, .ref 100), (1, .int sI)] [] S R Q := by
  intro m
  induction m with
  | zero =>
    intro g S hg hT hq
    have eg := w_nat (k := g) (by omega)
    have e12 : (Int32.ofInt 6).toInt = 6 := by decide
    refine w_st rfl (fun _ => rfl) ?_
    refine w_st rfl (fun _ => rfl) ?_
    show w_T L xs (d + 1) m_X12_takesPlaces 7 [(3, .int (Int32.ofInt (g : Int))), (2, .int (Int32.ofInt ((v_popN g sI.toInt.toNat : Nat) : Int))), (0, .ref 100), (1, .int sI)] [.int (Int32.ofInt 6), .int (Int32.ofInt (g : Int))] S R Q
    refine w_br (P := (Int32.ofInt 6) ≤ (Int32.ofInt (g : Int))) rfl (fun _ => rfl) (fun h7 => ?_) (fun h7 => ?_)
    · refine w_st rfl (fun _ => rfl) ?_
      show w_T L xs (d + 1) m_X12_takesPlaces 38 [(3, .int (Int32.ofInt (g : Int))), (2, .int (Int32.ofInt ((v_popN g sI.toInt.toNat : Nat) : Int))), (0, .ref 100), (1, .int sI)] [.int (Int32.ofInt ((v_popN g sI.toInt.toNat : Nat) : Int))] S R Q
      refine w_ret rfl rfl ?_
      have e : g = 6 := by omega
      subst e
      exact hq S hT (fun _ _ _ => rfl)
    · exfalso; rw [q_le32, e12, eg] at h7; omega
  | succ m ih =>
    intro g S hg hT hq
    have eg := w_nat (k := g) (by omega)
    have e12 : (Int32.ofInt 6).toInt = 6 := by decide
    have hle := v_popN_f g sI.toInt.toNat
    have en := w_nat (k := v_popN g sI.toInt.toNat) (by omega)
    have hps := v_popN_s g sI.toInt.toNat
    have egn : (Int32.ofInt (g : Int)).toInt.toNat = g := by rw [eg]; omega
    have hbit := h_bit sI (Int32.ofInt (g : Int)) hs (by omega) (by omega)
    rw [egn] at hbit
    refine w_st rfl (fun _ => rfl) ?_
    refine w_st rfl (fun _ => rfl) ?_
    show w_T L xs (d + 1) m_X12_takesPlaces 7 [(3, .int (Int32.ofInt (g : Int))), (2, .int (Int32.ofInt ((v_popN g sI.toInt.toNat : Nat) : Int))), (0, .ref 100), (1, .int sI)] [.int (Int32.ofInt 6), .int (Int32.ofInt (g : Int))] S R Q
    refine w_br (P := (Int32.ofInt 6) ≤ (Int32.ofInt (g : Int))) rfl (fun _ => rfl) (fun h7 => ?_) (fun h7 => ?_)
    · exfalso; rw [q_le32, e12, eg] at h7; omega
    · refine w_st rfl (fun _ => rfl) ?_
      refine w_st rfl (fun _ => rfl) ?_
      show w_T L xs (d + 1) m_X12_takesPlaces 12 [(3, .int (Int32.ofInt (g : Int))), (2, .int (Int32.ofInt ((v_popN g sI.toInt.toNat : Nat) : Int))), (0, .ref 100), (1, .int sI)] [.int (Int32.ofInt (g : Int)), .int sI] S R Q
      refine w_cs rfl (by decide) mt_X12_has (fun _ => rfl) (Nat.le_of_ble_eq_true rfl) (Nat.le_of_ble_eq_true rfl) ?_
      show w_T L xs _ m_X12_has 0 (lv_args 0 [.int sI, .int (Int32.ofInt (g : Int))]) [] S R _
      refine h_has sI _ ?_
      rw [hbit]
      show w_T L xs (d + 1) m_X12_takesPlaces 15 [(3, .int (Int32.ofInt (g : Int))), (2, .int (Int32.ofInt ((v_popN g sI.toInt.toNat : Nat) : Int))), (0, .ref 100), (1, .int sI)] [.int (Int32.ofInt ((sI.toInt.toNat / 2 ^ g % 2 : Nat) : Int))] S R Q
      refine w_br (P := ¬ (Int32.ofInt ((sI.toInt.toNat / 2 ^ g % 2 : Nat) : Int)) = 0) rfl (fun _ => rfl) (fun h15 => ?_) (fun h15 => ?_)
      · have hz : sI.toInt.toNat / 2 ^ g % 2 = 1 := by
          have : ¬ sI.toInt.toNat / 2 ^ g % 2 = 0 := fun e => h15 (by rw [e]; rfl)
          omega
        refine w_st rfl (fun _ => rfl) ?_
        show w_T L xs (d + 1) m_X12_takesPlaces 22 [(3, .int (Int32.ofInt (g : Int))), (2, .int (Int32.ofInt ((v_popN g sI.toInt.toNat : Nat) : Int))), (0, .ref 100), (1, .int sI)] [.ref 100] S R Q
        refine w_getr rfl v_tyM rfl ?_
        refine w_st rfl (fun _ => rfl) ?_
        refine w_st rfl (fun _ => rfl) ?_
        show w_T L xs (d + 1) m_X12_takesPlaces 27 [(3, .int (Int32.ofInt (g : Int))), (2, .int (Int32.ofInt ((v_popN g sI.toInt.toNat : Nat) : Int))), (0, .ref 100), (1, .int sI)] [.int (Int32.ofInt (g : Int)), .int (Int32.ofInt ((v_popN g sI.toInt.toNat : Nat) : Int)), .ref 154] S R Q
        refine w_iast rfl rfl (by rw [en]; omega) (by rw [en]; omega) ?_
        refine w_st rfl (fun _ => rfl) ?_
        refine w_st rfl (fun _ => rfl) ?_
        refine w_st rfl (fun _ => rfl) ?_
        show w_T L xs (d + 1) m_X12_takesPlaces 4 [(3, .int ((Int32.ofInt (g : Int)) + Int32.ofInt 1)), (2, .int ((Int32.ofInt ((v_popN g sI.toInt.toNat : Nat) : Int)) + Int32.ofInt 1)), (0, .ref 100), (1, .int sI)] [] (v_ur S 153 (upd (S 153) (Int32.ofInt ((v_popN g sI.toInt.toNat : Nat) : Int)).toInt.toNat (Int32.ofInt (g : Int)))) R Q
        have e1 : Int32.ofInt ((v_popN g sI.toInt.toNat : Nat) : Int) + Int32.ofInt 1 = Int32.ofInt ((v_popN (g + 1) sI.toInt.toNat : Nat) : Int) := by rw [w_inc, hps, hz]
        rw [e1, w_inc]
        refine ih (g + 1) _ (by omega) (w_TbR hT (a := 153) rfl (by omega) (by omega)) (fun S' h1 h2 => hq S' h1 (fun a j hj => ?_))
        rw [h2 a j hj]
        exact w_urn (fun e => hj ⟨e.1, by rw [e.2, en]; omega⟩)
      · have hz : sI.toInt.toNat / 2 ^ g % 2 = 0 := by
          have h16 := Decidable.of_not_not h15
          have := congrArg Int32.toInt h16
          rw [w_nat (by omega)] at this
          have z0 : (0 : Int32).toInt = 0 := rfl
          omega
        refine w_st rfl (fun _ => rfl) ?_
        refine w_st rfl (fun _ => rfl) ?_
        refine w_st rfl (fun _ => rfl) ?_
        show w_T L xs (d + 1) m_X12_takesPlaces 4 [(3, .int ((Int32.ofInt (g : Int)) + Int32.ofInt 1)), (2, .int (Int32.ofInt ((v_popN g sI.toInt.toNat : Nat) : Int))), (0, .ref 100), (1, .int sI)] [] S R Q
        have e1 : v_popN g sI.toInt.toNat = v_popN (g + 1) sI.toInt.toNat := by omega
        rw [w_inc]
        have e2 := ih (g + 1) S (by omega) hT hq
        rw [← e1] at e2
        exact e2
theorem h_X12_takesPlaces (sI : Int32) (S : v_Sf) (hs : 0 ≤ sI.toInt) (hs2 : sI.toInt < 64) (hT : v_Tb v_ty S R) (hq : ∀ S', v_Tb v_ty S' R → (∀ a j, ¬ (a = 153 ∧ j ≤ 6) → S' a j = S a j) → Q (some (.int (v_pop sI))) S' R) : w_T L xs (d + 1) m_X12_takesPlaces 0 (lv_args 0 [.ref 100, .int sI]) [] S R Q := by
  have e0 : v_pop sI = Int32.ofInt ((v_popN 6 sI.toInt.toNat : Nat) : Int) := by
    obtain ⟨e1, l1⟩ := v_nn hs
    have e2 : sI.toInt.toNat = sI.toBitVec.toNat := by omega
    have e3 : v_popN (6 + 26) sI.toBitVec.toNat = v_popN 6 sI.toBitVec.toNat := v_popN_big 26 6 sI.toBitVec.toNat (by omega)
    rw [e2, ← e3]
    rfl
  rw [e0] at hq
  refine w_st rfl (fun _ => rfl) ?_
  refine w_st rfl (fun _ => rfl) ?_
  refine w_st rfl (fun _ => rfl) ?_
  refine w_st rfl (fun _ => rfl) ?_
  show w_T L xs (d + 1) m_X12_takesPlaces 4 [(3, .int (Int32.ofInt 0)), (2, .int (Int32.ofInt 0)), (0, .ref 100), (1, .int sI)] [] S R Q
  exact h_X12_takesPlaces1 sI hs 6 0 S rfl hT hq
end HT
end Prt34
section Prt35
/-! works: a stretch of code is gone through -/
noncomputable abbrev m_X12_works : g_M := (g_cn 12, yX12_works, cX12_works, 5, none, g_look2 ttX12_works)
set_option maxRecDepth 20000 in
theorem mt_X12_works : g_mt 198 = some m_X12_works := rfl
noncomputable abbrev m_X12_does : g_M := (g_cn 12, yX12_does, cX12_does, 4, none, g_look2 ttX12_does)
set_option maxRecDepth 20000 in
theorem mt_X12_does : g_mt 197 = some m_X12_does := rfl
noncomputable abbrev m_X12_valueOf : g_M := (g_cn 12, yX12_valueOf, cX12_valueOf, 2, (some .int), g_look2 ttX12_valueOf)
set_option maxRecDepth 20000 in
theorem mt_X12_valueOf : g_mt 195 = some m_X12_valueOf := rfl
theorem v_Fr_rf (m : List (Nat × Nat × Nat)) (S : v_Sf) (R : v_Rf) : v_Fr m S R S R := fun _ _ _ => ⟨rfl, rfl⟩
theorem v_Fr_tr {m : List (Nat × Nat × Nat)} {S S1 S2 : v_Sf} {R R1 R2 : v_Rf} (h1 : v_Fr m S R S1 R1) (h2 : v_Fr m S1 R1 S2 R2) : v_Fr m S R S2 R2 := fun a j hm => ⟨(h2 a j hm).1.trans (h1 a j hm).1, (h2 a j hm).2.trans (h1 a j hm).2⟩
theorem v_Fr_ur {m : List (Nat × Nat × Nat)} (S : v_Sf) (R : v_Rf) {a j : Nat} (v : Int32) (h : v_md m a j j = true) : v_Fr m S R (v_ur S a (upd (S a) j v)) R := fun a' j' hm => ⟨w_urn (fun e => by rw [e.1, e.2, h] at hm; cases hm), rfl⟩
theorem v_Fr_sub {m m2 : List (Nat × Nat × Nat)} (h : v_sub m m2 = true) {S S1 : v_Sf} {R R1 : v_Rf} (h1 : v_Fr m S R S1 R1) : v_Fr m2 S R S1 R1 := fun a j hm => h1 a j (v_sub_md h hm)
theorem w_Op_ur {S : v_Sf} {a j : Nat} {v : Int32} (hf : v_frz a j j = false) (hO : v_Op S) : v_Op (v_ur S a (upd (S a) j v)) := v_fz_ok.1 S _ (fun a' j' h => w_urn (fun e => by rw [e.1, e.2, hf] at h; cases h)) hO
theorem w_dec {k : Nat} (h : 0 < k) : Int32.ofInt (k : Int) + Int32.ofInt (-1) = Int32.ofInt ((k - 1 : Nat) : Int) := by
  rw [← Int32.ofInt_add]
  congr 1
  omega
theorem w_dec2 {k : Nat} (h : 0 < k) : Int32.ofInt (k : Int) - Int32.ofInt 1 = Int32.ofInt ((k - 1 : Nat) : Int) := by
  rw [← Int32.ofInt_sub]
  congr 1
  omega
set_option maxHeartbeats 2000000 in
theorem h_works1 {L : Nat} {xs : Nat → Int32} {d : Nat} {Q : Option Value → v_Sf → v_Rf → Prop} (hD : v_Met L xs v_ty v_Op 197 rw_187) (hV : v_Met L xs v_ty v_Op 195 rw_185) (fI : Int32) (to : Nat) (hto : to ≤ 480) : ∀ (m i dep : Nat) (S : v_Sf) (R : v_Rf), i + m = to → dep + m ≤ 240 → v_seg (S 105) m i dep → v_Tb v_ty S R → v_Op S → (∀ S' R', v_Tb v_ty S' R' → v_Op S' → v_Fr [(114, 0, 240), (115, 0, 240)] S R S' R' → Q none S' R') → w_T L xs (d + 4) m_X12_works 5 [(4, .int (Int32.ofInt (i : Int))), (3, .int (Int32.ofInt (dep : Int))), (0, .ref 100), (1, .int fI), (2, .int (Int32.ofInt (to : Int)))] [] S R Q := by
  have f1 : ∀ j, v_frz 114 j j = false := fun j => rfl
  have f2 : ∀ j, v_frz 115 j j = false := fun j => rfl
  have c1 : ∀ j, v_md [(114, 0, 240), (115, 0, 240)] 105 j j = false := fun j => rfl
  have g1 : ∀ j, j ≤ 240 → v_md [(114, 0, 240), (115, 0, 240)] 114 j j = true := fun j hj => v_md_mono (lo := 0) (hi := 240) (by decide +kernel) (Nat.zero_le _) hj
  have g2 : ∀ j, j ≤ 240 → v_md [(114, 0, 240), (115, 0, 240)] 115 j j = true := fun j hj => v_md_mono (lo := 0) (hi := 240) (by decide +kernel) (Nat.zero_le _) hj
  have e2 : (Int32.ofInt 2).toInt = 2 := by decide
  have et : (Int32.ofInt (to : Int)).toInt = (to : Int) := w_nat (by omega)
  intro m
  induction m with
  | zero =>
    intro i dep S R him hdm hs hT hO hq
    have ei := w_nat (k := i) (by omega)
    refine w_st rfl (fun _ => rfl) ?_
    refine w_st rfl (fun _ => rfl) ?_
    show w_T L xs (d + 4) m_X12_works 8 [(4, .int (Int32.ofInt (i : Int))), (3, .int (Int32.ofInt (dep : Int))), (0, .ref 100), (1, .int fI), (2, .int (Int32.ofInt (to : Int)))] [.int (Int32.ofInt (to : Int)), .int (Int32.ofInt (i : Int))] S R Q
    refine w_br (P := (Int32.ofInt (to : Int)) ≤ (Int32.ofInt (i : Int))) rfl (fun _ => rfl) (fun h8 => ?_) (fun h8 => ?_)
    · refine w_ret rfl rfl ?_
      exact hq S R hT hO (v_Fr_rf _ _ _)
    · exfalso; rw [q_le32, et, ei] at h8; omega
  | succ m ih =>
    intro i dep S R him hdm hs hT hO hq
    have ei := w_nat (k := i) (by omega)
    have ein : (Int32.ofInt (i : Int)).toInt.toNat = i := by rw [ei]; omega
    have ed := w_nat (k := dep) (by omega)
    have edn : (Int32.ofInt (dep : Int)).toInt.toNat = dep := by rw [ed]; omega
    unfold v_seg at hs
    refine w_st rfl (fun _ => rfl) ?_
    refine w_st rfl (fun _ => rfl) ?_
    show w_T L xs (d + 4) m_X12_works 8 [(4, .int (Int32.ofInt (i : Int))), (3, .int (Int32.ofInt (dep : Int))), (0, .ref 100), (1, .int fI), (2, .int (Int32.ofInt (to : Int)))] [.int (Int32.ofInt (to : Int)), .int (Int32.ofInt (i : Int))] S R Q
    refine w_br (P := (Int32.ofInt (to : Int)) ≤ (Int32.ofInt (i : Int))) rfl (fun _ => rfl) (fun h8 => ?_) (fun h8 => ?_)
    · exfalso; rw [q_le32, et, ei] at h8; omega
    · refine w_st rfl (fun _ => rfl) ?_
      show w_T L xs (d + 4) m_X12_works 12 [(4, .int (Int32.ofInt (i : Int))), (3, .int (Int32.ofInt (dep : Int))), (0, .ref 100), (1, .int fI), (2, .int (Int32.ofInt (to : Int)))] [.ref 100] S R Q
      refine w_getr rfl v_tyM rfl ?_
      refine w_st rfl (fun _ => rfl) ?_
      show w_T L xs (d + 4) m_X12_works 17 [(4, .int (Int32.ofInt (i : Int))), (3, .int (Int32.ofInt (dep : Int))), (0, .ref 100), (1, .int fI), (2, .int (Int32.ofInt (to : Int)))] [.int (Int32.ofInt (i : Int)), .ref 106] S R Q
      refine w_iald rfl rfl (by rw [ei]; omega) (by rw [ei]; omega) ?_
      rw [ein]
      refine w_st rfl (fun _ => rfl) ?_
      show w_T L xs (d + 4) m_X12_works 19 [(4, .int (Int32.ofInt (i : Int))), (3, .int (Int32.ofInt (dep : Int))), (0, .ref 100), (1, .int fI), (2, .int (Int32.ofInt (to : Int)))] [.int (Int32.ofInt 2), .int (S 105 i)] S R Q
      refine w_br (P := (S 105 i) ≤ (Int32.ofInt 2)) rfl (fun _ => rfl) (fun h19 => ?_) (fun h19 => ?_)
      · have h2c : ¬ S 105 i > 2 := by
          rw [q_le32, e2] at h19
          show ¬ (2 : Int32) < _
          rw [q_lt32]
          show ¬ (2 : Int) < _
          omega
        rw [if_neg h2c] at hs
        refine w_st rfl (fun _ => rfl) ?_
        show w_T L xs (d + 4) m_X12_works 43 [(4, .int (Int32.ofInt (i : Int))), (3, .int (Int32.ofInt (dep : Int))), (0, .ref 100), (1, .int fI), (2, .int (Int32.ofInt (to : Int)))] [.ref 100] S R Q
        refine w_getr rfl v_tyM rfl ?_
        refine w_st rfl (fun _ => rfl) ?_
        show w_T L xs (d + 4) m_X12_works 48 [(4, .int (Int32.ofInt (i : Int))), (3, .int (Int32.ofInt (dep : Int))), (0, .ref 100), (1, .int fI), (2, .int (Int32.ofInt (to : Int)))] [.int (Int32.ofInt (i : Int)), .ref 106] S R Q
        refine w_iald rfl rfl (by rw [ei]; omega) (by rw [ei]; omega) ?_
        rw [ein]
        refine w_st rfl (fun _ => rfl) ?_
        show w_T L xs (d + 4) m_X12_works 50 [(4, .int (Int32.ofInt (i : Int))), (3, .int (Int32.ofInt (dep : Int))), (0, .ref 100), (1, .int fI), (2, .int (Int32.ofInt (to : Int)))] [.int (Int32.ofInt 2), .int (S 105 i)] S R Q
        refine w_br (P := ¬ (S 105 i) = (Int32.ofInt 2)) rfl (fun _ => rfl) (fun h50 => ?_) (fun h50 => ?_)
        · have h3c : ¬ S 105 i = 2 := h50
          rw [if_neg h3c] at hs
          refine w_st rfl (fun _ => rfl) ?_
          show w_T L xs (d + 4) m_X12_works 75 [(4, .int (Int32.ofInt (i : Int))), (3, .int (Int32.ofInt (dep : Int))), (0, .ref 100), (1, .int fI), (2, .int (Int32.ofInt (to : Int)))] [.ref 100] S R Q
          refine w_getr rfl v_tyM rfl ?_
          refine w_st rfl (fun _ => rfl) ?_
          refine w_st rfl (fun _ => rfl) ?_
          show w_T L xs (d + 4) m_X12_works 80 [(4, .int (Int32.ofInt (i : Int))), (3, .int (Int32.ofInt (dep : Int))), (0, .ref 100), (1, .int fI), (2, .int (Int32.ofInt (to : Int)))] [.int (Int32.ofInt 0), .int (Int32.ofInt (dep : Int)), .ref 116] S R Q
          refine w_bast rfl rfl (Or.inr ⟨rfl, rfl⟩) (by rw [ed]; omega) (by rw [ed]; omega) ?_
          have hT3 : v_Tb v_ty (v_ur S 115 (upd (S 115) (Int32.ofInt (dep : Int)).toInt.toNat (Int32.ofInt 0))) R := w_TbR hT (a := 115) rfl (by decide) (by decide)
          have hO3 : v_Op (v_ur S 115 (upd (S 115) (Int32.ofInt (dep : Int)).toInt.toNat (Int32.ofInt 0))) := w_Op_ur (f2 _) hO
          have hF3 : v_Fr [(114, 0, 240), (115, 0, 240)] S R (v_ur S 115 (upd (S 115) (Int32.ofInt (dep : Int)).toInt.toNat (Int32.ofInt 0))) R := v_Fr_ur _ _ _ (g2 _ (by rw [edn]; omega))
          refine w_st rfl (fun _ => rfl) ?_
          show w_T L xs (d + 4) m_X12_works 82 [(4, .int (Int32.ofInt (i : Int))), (3, .int (Int32.ofInt (dep : Int))), (0, .ref 100), (1, .int fI), (2, .int (Int32.ofInt (to : Int)))] [.ref 100] (v_ur S 115 (upd (S 115) (Int32.ofInt (dep : Int)).toInt.toNat (Int32.ofInt 0))) R Q
          refine w_getr rfl v_tyM rfl ?_
          refine w_st rfl (fun _ => rfl) ?_
          refine w_st rfl (fun _ => rfl) ?_
          show w_T L xs (d + 4) m_X12_works 87 [(4, .int (Int32.ofInt (i : Int))), (3, .int (Int32.ofInt (dep : Int))), (0, .ref 100), (1, .int fI), (2, .int (Int32.ofInt (to : Int)))] [.ref 100, .int (Int32.ofInt (dep : Int)), .ref 115] (v_ur S 115 (upd (S 115) (Int32.ofInt (dep : Int)).toInt.toNat (Int32.ofInt 0))) R Q
          refine w_getr rfl v_tyM rfl ?_
          refine w_st rfl (fun _ => rfl) ?_
          show w_T L xs (d + 4) m_X12_works 92 [(4, .int (Int32.ofInt (i : Int))), (3, .int (Int32.ofInt (dep : Int))), (0, .ref 100), (1, .int fI), (2, .int (Int32.ofInt (to : Int)))] [.int (Int32.ofInt (i : Int)), .ref 106, .int (Int32.ofInt (dep : Int)), .ref 115] (v_ur S 115 (upd (S 115) (Int32.ofInt (dep : Int)).toInt.toNat (Int32.ofInt 0))) R Q
          refine w_iald rfl rfl (by rw [ei]; omega) (by rw [ei]; omega) ?_
          rw [ein]
          show w_T L xs (d + 4) m_X12_works 93 [(4, .int (Int32.ofInt (i : Int))), (3, .int (Int32.ofInt (dep : Int))), (0, .ref 100), (1, .int fI), (2, .int (Int32.ofInt (to : Int)))] [.int ((v_ur S 115 (upd (S 115) (Int32.ofInt (dep : Int)).toInt.toNat (Int32.ofInt 0))) 105 i), .int (Int32.ofInt (dep : Int)), .ref 115] (v_ur S 115 (upd (S 115) (Int32.ofInt (dep : Int)).toInt.toNat (Int32.ofInt 0))) R Q
          refine w_br (P := ¬ ((v_ur S 115 (upd (S 115) (Int32.ofInt (dep : Int)).toInt.toNat (Int32.ofInt 0))) 105 i) = 0) rfl (fun _ => rfl) (fun h93 => ?_) (fun h93 => ?_)
          · refine w_st rfl (fun _ => rfl) ?_
            refine w_st rfl (fun _ => rfl) ?_
            show w_T L xs (d + 4) m_X12_works 108 [(4, .int (Int32.ofInt (i : Int))), (3, .int (Int32.ofInt (dep : Int))), (0, .ref 100), (1, .int fI), (2, .int (Int32.ofInt (to : Int)))] [.ref 100, .ref 100, .int (Int32.ofInt (dep : Int)), .ref 115] (v_ur S 115 (upd (S 115) (Int32.ofInt (dep : Int)).toInt.toNat (Int32.ofInt 0))) R Q
            refine w_getr rfl v_tyM rfl ?_
            refine w_st rfl (fun _ => rfl) ?_
            show w_T L xs (d + 4) m_X12_works 113 [(4, .int (Int32.ofInt (i : Int))), (3, .int (Int32.ofInt (dep : Int))), (0, .ref 100), (1, .int fI), (2, .int (Int32.ofInt (to : Int)))] [.int (Int32.ofInt (i : Int)), .ref 107, .ref 100, .int (Int32.ofInt (dep : Int)), .ref 115] (v_ur S 115 (upd (S 115) (Int32.ofInt (dep : Int)).toInt.toNat (Int32.ofInt 0))) R Q
            refine w_iald rfl rfl (by rw [ei]; omega) (by rw [ei]; omega) ?_
            rw [ein]
            show w_T L xs (d + 4) m_X12_works 114 [(4, .int (Int32.ofInt (i : Int))), (3, .int (Int32.ofInt (dep : Int))), (0, .ref 100), (1, .int fI), (2, .int (Int32.ofInt (to : Int)))] [.int ((v_ur S 115 (upd (S 115) (Int32.ofInt (dep : Int)).toInt.toNat (Int32.ofInt 0))) 106 i), .ref 100, .int (Int32.ofInt (dep : Int)), .ref 115] (v_ur S 115 (upd (S 115) (Int32.ofInt (dep : Int)).toInt.toNat (Int32.ofInt 0))) R Q
            refine w_cv rfl (by decide) mt_X12_valueOf v_tyM rfl rfl rfl (Nat.le_of_ble_eq_true rfl) (Nat.le_of_ble_eq_true rfl) (Nat.le_of_ble_eq_true rfl) ?_
            show w_T L xs _ m_X12_valueOf 0 (lv_args 0 [.ref 100, .int ((v_ur S 115 (upd (S 115) (Int32.ofInt (dep : Int)).toInt.toNat (Int32.ofInt 0))) 106 i)]) [] (v_ur S 115 (upd (S 115) (Int32.ofInt (dep : Int)).toInt.toNat (Int32.ofInt 0))) R _
            refine w_met hV (Nat.le_of_ble_eq_true rfl) mt_X12_valueOf ⟨rfl, ⟨_, rfl, (q_rng _).1, (q_rng _).2⟩, trivial⟩ hT3 hO3 (fun r S1 R1 hT1 hO1 hr hF => ?_)
            obtain ⟨u, hr, -, -⟩ := hr
            subst hr
            show w_T L xs (d + 4) m_X12_works 117 [(4, .int (Int32.ofInt (i : Int))), (3, .int (Int32.ofInt (dep : Int))), (0, .ref 100), (1, .int fI), (2, .int (Int32.ofInt (to : Int)))] [.int u, .int (Int32.ofInt (dep : Int)), .ref 115] S1 R1 Q
            refine w_iast rfl rfl (by rw [ed]; omega) (by rw [ed]; omega) ?_
            refine w_st rfl (fun _ => rfl) ?_
            refine w_st rfl (fun _ => rfl) ?_
            refine w_st rfl (fun _ => rfl) ?_
            show w_T L xs (d + 4) m_X12_works 5 [(4, .int ((Int32.ofInt (i : Int)) + Int32.ofInt 1)), (3, .int ((Int32.ofInt (dep : Int)) + Int32.ofInt 1)), (0, .ref 100), (1, .int fI), (2, .int (Int32.ofInt (to : Int)))] [] (v_ur S1 114 (upd (S1 114) (Int32.ofInt (dep : Int)).toInt.toNat u)) R1 Q
            rw [w_inc, w_inc]
            refine ih (i + 1) (dep + 1) _ R1 (by omega) (by omega) ?_ (w_TbR hT1 (a := 114) rfl (q_rng _).1 (q_rng _).2) (w_Op_ur (f1 _) hO1) (fun S2 R2 k1 k2 k3 => hq S2 R2 k1 k2 (v_Fr_tr (v_Fr_tr hF3 (v_Fr_sub (by decide +kernel) hF)) (v_Fr_tr (v_Fr_ur _ _ _ (g1 _ (by rw [edn]; omega))) k3)))
            have ec : (v_ur S1 114 (upd (S1 114) (Int32.ofInt (dep : Int)).toInt.toNat u)) 105 = S 105 := funext (fun j => by
              rw [v_ur_n _ _ (by decide), (v_Fr_sub (m2 := [(114, 0, 240), (115, 0, 240)]) (by decide +kernel) hF 105 j (c1 j)).1]
              exact (hF3 105 j (c1 j)).1)
            rw [ec]
            exact hs
          · refine w_st rfl (fun _ => rfl) ?_
            show w_T L xs (d + 4) m_X12_works 97 [(4, .int (Int32.ofInt (i : Int))), (3, .int (Int32.ofInt (dep : Int))), (0, .ref 100), (1, .int fI), (2, .int (Int32.ofInt (to : Int)))] [.ref 100, .int (Int32.ofInt (dep : Int)), .ref 115] (v_ur S 115 (upd (S 115) (Int32.ofInt (dep : Int)).toInt.toNat (Int32.ofInt 0))) R Q
            refine w_getr rfl v_tyM rfl ?_
            refine w_st rfl (fun _ => rfl) ?_
            show w_T L xs (d + 4) m_X12_works 102 [(4, .int (Int32.ofInt (i : Int))), (3, .int (Int32.ofInt (dep : Int))), (0, .ref 100), (1, .int fI), (2, .int (Int32.ofInt (to : Int)))] [.int (Int32.ofInt (i : Int)), .ref 107, .int (Int32.ofInt (dep : Int)), .ref 115] (v_ur S 115 (upd (S 115) (Int32.ofInt (dep : Int)).toInt.toNat (Int32.ofInt 0))) R Q
            refine w_iald rfl rfl (by rw [ei]; omega) (by rw [ei]; omega) ?_
            rw [ein]
            refine w_st rfl (fun _ => rfl) ?_
            show w_T L xs (d + 4) m_X12_works 117 [(4, .int (Int32.ofInt (i : Int))), (3, .int (Int32.ofInt (dep : Int))), (0, .ref 100), (1, .int fI), (2, .int (Int32.ofInt (to : Int)))] [.int ((v_ur S 115 (upd (S 115) (Int32.ofInt (dep : Int)).toInt.toNat (Int32.ofInt 0))) 106 i), .int (Int32.ofInt (dep : Int)), .ref 115] (v_ur S 115 (upd (S 115) (Int32.ofInt (dep : Int)).toInt.toNat (Int32.ofInt 0))) R Q
            refine w_iast rfl rfl (by rw [ed]; omega) (by rw [ed]; omega) ?_
            refine w_st rfl (fun _ => rfl) ?_
            refine w_st rfl (fun _ => rfl) ?_
            refine w_st rfl (fun _ => rfl) ?_
            show w_T L xs (d + 4) m_X12_works 5 [(4, .int ((Int32.ofInt (i : Int)) + Int32.ofInt 1)), (3, .int ((Int32.ofInt (dep : Int)) + Int32.ofInt 1)), (0, .ref 100), (1, .int fI), (2, .int (Int32.ofInt (to : Int)))] [] (v_ur (v_ur S 115 (upd (S 115) (Int32.ofInt (dep : Int)).toInt.toNat (Int32.ofInt 0))) 114 (upd ((v_ur S 115 (upd (S 115) (Int32.ofInt (dep : Int)).toInt.toNat (Int32.ofInt 0))) 114) (Int32.ofInt (dep : Int)).toInt.toNat ((v_ur S 115 (upd (S 115) (Int32.ofInt (dep : Int)).toInt.toNat (Int32.ofInt 0))) 106 i))) R Q
            rw [w_inc, w_inc]
            refine ih (i + 1) (dep + 1) _ R (by omega) (by omega) ?_ (w_TbR hT3 (a := 114) rfl (q_rng _).1 (q_rng _).2) (w_Op_ur (f1 _) hO3) (fun S2 R2 k1 k2 k3 => hq S2 R2 k1 k2 (v_Fr_tr (v_Fr_tr hF3 (v_Fr_ur _ _ _ (g1 _ (by rw [edn]; omega)))) k3))
            rw [v_ur_n _ _ (by decide), v_ur_n _ _ (by decide)]
            exact hs
        · have h3c : S 105 i = 2 := Decidable.of_not_not h50
          rw [if_pos h3c] at hs
          refine w_st rfl (fun _ => rfl) ?_
          show w_T L xs (d + 4) m_X12_works 54 [(4, .int (Int32.ofInt (i : Int))), (3, .int (Int32.ofInt (dep : Int))), (0, .ref 100), (1, .int fI), (2, .int (Int32.ofInt (to : Int)))] [.ref 100] S R Q
          refine w_getr rfl v_tyM rfl ?_
          refine w_st rfl (fun _ => rfl) ?_
          refine w_st rfl (fun _ => rfl) ?_
          refine w_st rfl (fun _ => rfl) ?_
          refine w_st rfl (fun _ => rfl) ?_
          refine w_st rfl (fun _ => rfl) ?_
          show w_T L xs (d + 4) m_X12_works 62 [(4, .int (Int32.ofInt (i : Int))), (3, .int (Int32.ofInt (dep : Int))), (0, .ref 100), (1, .int fI), (2, .int (Int32.ofInt (to : Int)))] [.ref 100, .int (Int32.ofInt 1), .int ((Int32.ofInt (dep : Int)) - (Int32.ofInt 1)), .ref 115] S R Q
          refine w_getr rfl v_tyM rfl ?_
          refine w_st rfl (fun _ => rfl) ?_
          refine w_st rfl (fun _ => rfl) ?_
          refine w_st rfl (fun _ => rfl) ?_
          show w_T L xs (d + 4) m_X12_works 68 [(4, .int (Int32.ofInt (i : Int))), (3, .int (Int32.ofInt (dep : Int))), (0, .ref 100), (1, .int fI), (2, .int (Int32.ofInt (to : Int)))] [.int ((Int32.ofInt (dep : Int)) - (Int32.ofInt 1)), .ref 115, .int (Int32.ofInt 1), .int ((Int32.ofInt (dep : Int)) - (Int32.ofInt 1)), .ref 115] S R Q
          refine w_iald rfl rfl (by rw [w_dec2 (by omega), w_nat (by omega)]; omega) (by rw [w_dec2 (by omega), w_nat (by omega)]; omega) ?_
          refine w_st rfl (fun _ => rfl) ?_
          show w_T L xs (d + 4) m_X12_works 70 [(4, .int (Int32.ofInt (i : Int))), (3, .int (Int32.ofInt (dep : Int))), (0, .ref 100), (1, .int fI), (2, .int (Int32.ofInt (to : Int)))] [.int ((Int32.ofInt 1) - (S 114 ((Int32.ofInt (dep : Int)) - (Int32.ofInt 1)).toInt.toNat)), .int ((Int32.ofInt (dep : Int)) - (Int32.ofInt 1)), .ref 115] S R Q
          refine w_iast rfl rfl (by rw [w_dec2 (by omega), w_nat (by omega)]; omega) (by rw [w_dec2 (by omega), w_nat (by omega)]; omega) ?_
          refine w_st rfl (fun _ => rfl) ?_
          refine w_st rfl (fun _ => rfl) ?_
          refine w_st rfl (fun _ => rfl) ?_
          show w_T L xs (d + 4) m_X12_works 5 [(4, .int ((Int32.ofInt (i : Int)) + Int32.ofInt 1)), (3, .int (Int32.ofInt (dep : Int))), (0, .ref 100), (1, .int fI), (2, .int (Int32.ofInt (to : Int)))] [] (v_ur S 114 (upd (S 114) ((Int32.ofInt (dep : Int)) - (Int32.ofInt 1)).toInt.toNat ((Int32.ofInt 1) - (S 114 ((Int32.ofInt (dep : Int)) - (Int32.ofInt 1)).toInt.toNat)))) R Q
          rw [w_inc]
          refine ih (i + 1) dep _ R (by omega) (by omega) ?_ (w_TbR hT (a := 114) rfl (q_rng _).1 (q_rng _).2) (w_Op_ur (f1 _) hO) (fun S2 R2 k1 k2 k3 => hq S2 R2 k1 k2 (v_Fr_tr (v_Fr_ur _ _ _ (g1 _ (by rw [w_dec2 (by omega), w_nat (by omega)]; omega))) k3))
          rw [v_ur_n _ _ (by decide)]
          exact hs.2
      · have h2c : S 105 i > 2 := by
          rw [q_le32, e2] at h19
          show (2 : Int32) < _
          rw [q_lt32]
          show (2 : Int) < _
          omega
        rw [if_pos h2c] at hs
        refine w_st rfl (fun _ => rfl) ?_
        refine w_st rfl (fun _ => rfl) ?_
        refine w_st rfl (fun _ => rfl) ?_
        show w_T L xs (d + 4) m_X12_works 27 [(3, .int ((Int32.ofInt (dep : Int)) + Int32.ofInt (-1))), (4, .int (Int32.ofInt (i : Int))), (0, .ref 100), (1, .int fI), (2, .int (Int32.ofInt (to : Int)))] [.ref 100, .ref 100] S R Q
        refine w_getr rfl v_tyM rfl ?_
        refine w_st rfl (fun _ => rfl) ?_
        show w_T L xs (d + 4) m_X12_works 32 [(3, .int ((Int32.ofInt (dep : Int)) + Int32.ofInt (-1))), (4, .int (Int32.ofInt (i : Int))), (0, .ref 100), (1, .int fI), (2, .int (Int32.ofInt (to : Int)))] [.int (Int32.ofInt (i : Int)), .ref 106, .ref 100] S R Q
        refine w_iald rfl rfl (by rw [ei]; omega) (by rw [ei]; omega) ?_
        rw [ein]
        refine w_st rfl (fun _ => rfl) ?_
        refine w_st rfl (fun _ => rfl) ?_
        refine w_st rfl (fun _ => rfl) ?_
        show w_T L xs (d + 4) m_X12_works 36 [(3, .int ((Int32.ofInt (dep : Int)) + Int32.ofInt (-1))), (4, .int (Int32.ofInt (i : Int))), (0, .ref 100), (1, .int fI), (2, .int (Int32.ofInt (to : Int)))] [.int (((Int32.ofInt (dep : Int)) + Int32.ofInt (-1)) - (Int32.ofInt 1)), .int (S 105 i), .ref 100] S R Q
        refine w_cv rfl (by decide) mt_X12_does v_tyM rfl rfl rfl (Nat.le_of_ble_eq_true rfl) (Nat.le_of_ble_eq_true rfl) (Nat.le_of_ble_eq_true rfl) ?_
        show w_T L xs _ m_X12_does 0 (lv_args 0 [.ref 100, .int (S 105 i), .int (((Int32.ofInt (dep : Int)) + Int32.ofInt (-1)) - (Int32.ofInt 1))]) [] S R _
        refine w_met hD (Nat.le_of_ble_eq_true rfl) mt_X12_does ⟨rfl, ⟨_, rfl, (q_rng _).1, (q_rng _).2⟩, ⟨_, rfl, by rw [w_dec (by omega), w_dec2 (by omega), w_nat (by omega)]; show (0 : Int) ≤ _; omega, by rw [w_dec (by omega), w_dec2 (by omega), w_nat (by omega)]; show _ ≤ (238 : Int); omega⟩, trivial⟩ hT hO (fun r S1 R1 hT1 hO1 hr hF => ?_)
        have hr : r = none := hr
        subst hr
        refine w_st rfl (fun _ => rfl) ?_
        refine w_st rfl (fun _ => rfl) ?_
        refine w_st rfl (fun _ => rfl) ?_
        show w_T L xs (d + 4) m_X12_works 5 [(4, .int ((Int32.ofInt (i : Int)) + Int32.ofInt 1)), (3, .int ((Int32.ofInt (dep : Int)) + Int32.ofInt (-1))), (0, .ref 100), (1, .int fI), (2, .int (Int32.ofInt (to : Int)))] [] S1 R1 Q
        rw [w_dec (by omega), w_inc]
        refine ih (i + 1) (dep - 1) S1 R1 (by omega) (by omega) ?_ hT1 hO1 (fun S2 R2 k1 k2 k3 => hq S2 R2 k1 k2 (v_Fr_tr (v_Fr_sub (by decide +kernel) hF) k3))
        have ec : S1 105 = S 105 := funext (fun j => (v_Fr_sub (m2 := [(114, 0, 240), (115, 0, 240)]) (by decide +kernel) hF 105 j (c1 j)).1)
        rw [ec]
        exact hs.2
theorem h_works {L : Nat} {xs : Nat → Int32} {d : Nat} {Q : Option Value → v_Sf → v_Rf → Prop} (hD : v_Met L xs v_ty v_Op 197 rw_187) (hV : v_Met L xs v_ty v_Op 195 rw_185) (a b : Int32) (S : v_Sf) (R : v_Rf) (hs : v_stretch (S 105) a b) (hT : v_Tb v_ty S R) (hO : v_Op S) (hq : ∀ S' R', v_Tb v_ty S' R' → v_Op S' → v_Fr [(114, 0, 240), (115, 0, 240)] S R S' R' → Q none S' R') : w_T L xs (d + 4) m_X12_works 0 (lv_args 0 [.ref 100, .int a, .int b]) [] S R Q := by
  obtain ⟨s1, s2, s3, s4, s5⟩ := hs
  have ea : a = Int32.ofInt ((a.toInt.toNat : Nat) : Int) := by rw [show ((a.toInt.toNat : Nat) : Int) = a.toInt by omega, q_of]
  have eb : b = Int32.ofInt ((b.toInt.toNat : Nat) : Int) := by rw [show ((b.toInt.toNat : Nat) : Int) = b.toInt by omega, q_of]
  refine w_st rfl (fun _ => rfl) ?_
  refine w_st rfl (fun _ => rfl) ?_
  refine w_st rfl (fun _ => rfl) ?_
  refine w_st rfl (fun _ => rfl) ?_
  show w_T L xs (d + 4) m_X12_works 5 [(4, .int a), (3, .int (Int32.ofInt 0)), (0, .ref 100), (1, .int a), (2, .int b)] [] S R Q
  have h9 := h_works1 (Q := Q) (d := d) hD hV a b.toInt.toNat (by omega) (b.toInt - a.toInt).toNat a.toInt.toNat 0 S R (by omega) (by omega) s5 hT hO hq
  rw [← ea, ← eb] at h9
  exact h9
end Prt35
section Prt36
/-! the hooks that are proved by hand tell the truth -/
theorem v_pop_and (x y : Int32) : (v_pop (x &&& y)).toInt ≤ (v_pop x).toInt := by
  rw [v_pop_e, v_pop_e, Int32.toBitVec_and, BitVec.toNat_and]
  exact Int.ofNat_le.mpr (v_popN_and 32 _ _)
theorem v_pr2_ok {ρ : List Int} {e : q_S} (he : q_re ρ e) {s : Nat} {p : q_N} {u x : Int32} (hs : ρ[s]? = some (v_pop u).toInt) (hp : q_r ρ p x.toInt) (hle : (v_pop u).toInt ≤ (v_pop x).toInt) : q_re ρ (v_pr2 e s p) := by
  unfold v_pr2
  split
  · rename_i z hz
    obtain ⟨f, -, h2, h3, h4, h5⟩ := q_cse_ok 20 p (.inl 0) e 0 z hz
    obtain ⟨y, b1, -, -, b4⟩ := he.2 _ f h2
    rw [Nat.sub_zero] at b1
    rcases b4 with b4 | ⟨u1, v1, c1, c2, c3⟩
    · rw [h3] at b4; cases b4
    · rw [h4] at c1
      have e1 := q_inj (q_r_inj c1 hp)
      subst e1
      rw [h3] at c3
      have c3 : y = (v_pop u1).toInt := c3
      have iv := q_iv_ok he (a := .inr z) (x := y) b1
      have h0 : 0 ≤ (v_pop u).toInt := by rw [v_pop_e]; omega
      exact v_bd_ok he hs h0 (by omega)
  · exact he
theorem v_pr1_ok {ρ : List Int} {e : q_S} (he : q_re ρ e) {v a : q_N} {u : Int32} (hv : q_r ρ v (v_pop u).toInt) (ha : q_r ρ a u.toInt) : q_re ρ (v_pr1 e v a) := by
  unfold v_pr1
  split
  · rename_i s t
    split
    · rename_i f hf
      rw [q_nth_eq] at hf
      obtain ⟨y, b1, -, -, b4⟩ := he.2 _ f hf
      have ey : y = u.toInt := Option.some.inj (b1.symm.trans (show ρ[t]? = some u.toInt from ha))
      obtain ⟨lo, hi, op, p, q⟩ := f
      dsimp only at b4 ⊢
      split
      · rcases b4 with b4 | ⟨u1, v1, c1, c2, c3⟩
        · cases b4
        · have c3 : y = (u1 &&& v1).toInt := c3
          have eu : u = u1 &&& v1 := q_inj (by omega)
          subst eu
          have e1 := v_pr2_ok he (s := s) hv c1 (v_pop_and u1 v1)
          exact v_pr2_ok e1 (s := s) hv c2 (by rw [Int32.and_comm]; exact v_pop_and v1 u1)
      · exact he
    · exact he
  · exact he
theorem v_less_ok {ρ : List Int} {e : q_S} (he : q_re ρ e) {a b : q_N} {x y : Int} (ha : q_r ρ a x) (hb : q_r ρ b y) (h : v_less e a b = true) : x < y := by
  have i1 := q_iv_ok he ha
  have i2 := q_iv_ok he hb
  unfold v_less at h
  rw [Bool.or_eq_true] at h
  rcases h with h | h
  · rw [q_ilt_ok] at h; omega
  · split at h
    · rename_i z hz
      simp only [Bool.and_eq_true, q_ile_ok] at h
      obtain ⟨h1, h2, h3⟩ := h
      obtain ⟨f, -, k2, k3, k4, k5⟩ := q_cse_ok 2 a b e 0 z hz
      obtain ⟨w, b1, -, -, b4⟩ := he.2 _ f k2
      rw [Nat.sub_zero] at b1
      rcases b4 with b4 | ⟨u, v, c1, c2, c3⟩
      · rw [k3] at b4; cases b4
      · rw [k4] at c1
        rw [k5] at c2
        rw [k3] at c3
        have c3 : w = (u - v).toInt := c3
        have e1 : x = u.toInt := q_r_inj ha c1
        have e2 : y = v.toInt := q_r_inj hb c2
        have iv := q_iv_ok he (a := .inr z) (x := w) b1
        have e9 : (u - v).toInt = u.toInt - v.toInt := by
          rw [← q_of u, ← q_of v, ← Int32.ofInt_sub, q_of, q_of]
          exact q_ofr (by omega) (by omega)
        omega
    · cases h
section HW
variable {X : v_X} {ρ : List Int} {A : v_A} {S : v_Sf} {R : v_Rf}
theorem v_wk1_ok (r3 : v_ra X ρ A S R) {i : q_N} {j : Nat} (hi : q_r ρ i (j : Int)) {rule : Bool} (h : v_wk1 A i rule = true) : ((j : Int) < (S 99 16).toInt) ∨ (rule = true ∧ ∃ k : Nat, j = 16 + k ∧ (k : Int) < (S 99 17).toInt) := by
  unfold v_wk1 at h
  rw [Bool.or_eq_true] at h
  rcases h with h | h
  · left
    split at h
    · rename_i c hc
      obtain ⟨j', g1, g2⟩ := r3.2.1 _ (v_of_ok hc)
      have e : (j' : Int) = 16 := g1
      have e : j' = 16 := by omega
      subst e
      exact v_less_ok r3.1 hi g2 h
    · cases h
  · right
    cases hr : rule with
    | false => rw [hr] at h; cases h
    | true =>
      rw [hr] at h
      refine ⟨rfl, ?_⟩
      dsimp only [cond_true] at h
      split at h
      · rename_i c hc
        obtain ⟨j', g1, g2⟩ := r3.2.1 _ (v_of_ok hc)
        have e : (j' : Int) = 17 := g1
        have e : j' = 17 := by omega
        subst e
        have g2 : q_r ρ c (S 99 17).toInt := g2
        split at h
        · rename_i n
          rw [Bool.and_eq_true, q_ile_ok] at h
          have hi : (j : Int) = n := hi
          refine ⟨j - 16, by omega, ?_⟩
          have := v_less_ok r3.1 (a := .inl (n - 16)) (x := n - 16) rfl g2 h.2
          omega
        · rename_i tt
          split at h
          · rename_i f hf
            rw [q_nth_eq] at hf
            obtain ⟨w, b1, -, -, b4⟩ := r3.1.2 _ f hf
            have ew : w = (j : Int) := Option.some.inj (b1.symm.trans (show ρ[tt]? = some (j : Int) from hi))
            obtain ⟨lo, hi0, op, p, q⟩ := f
            dsimp only at b4 h
            split at h
            · rename_i n
              simp only [Bool.and_eq_true, q_ile_ok, q_ieq_ok] at h
              obtain ⟨h1, h2, h3, h4⟩ := h
              rcases b4 with b4 | ⟨u, v, c1, c2, c3⟩
              · cases b4
              · have c1 : u.toInt = n := c1
                have c3 : w = (u + v).toInt := c3
                have iv := q_iv_ok r3.1 c2
                have e9 : (u + v).toInt = u.toInt + v.toInt := by
                  rw [← q_of u, ← q_of v, ← Int32.ofInt_add, q_of, q_of]
                  exact q_ofr (by omega) (by omega)
                have hl := v_less_ok r3.1 c2 g2 h4
                exact ⟨v.toInt.toNat, by omega, by omega⟩
            · cases h
          · cases h
      · cases h
theorem v_wk_ok (r3 : v_ra X ρ A S R) {r1 r2 : Nat} {rule : Bool} {a b : q_N} {x y : Int32} (ha : q_r ρ a x.toInt) (hb : q_r ρ b y.toInt) : ∀ (ov : List (Nat × q_N × q_N)), (∀ q ∈ ov, q ∈ A.2.1) → v_wk A r1 r2 rule a b ov = true → ∃ j : Nat, x = S r1 j ∧ y = S r2 j ∧ (((j : Int) < (S 99 16).toInt) ∨ (rule = true ∧ ∃ k : Nat, j = 16 + k ∧ (k : Int) < (S 99 17).toInt))
  | [], _, h => by cases h
  | p :: ov, hm, h => by
    have h : (bif Nat.beq p.1 r1 && q_nb p.2.2 a then (bif (match v_of A.2.1 r2 p.2.1 with
      | some b' => q_nb b b' && v_wk1 A p.2.1 rule
      | none => false) then true else v_wk A r1 r2 rule a b ov) else v_wk A r1 r2 rule a b ov) = true := h
    have ih := v_wk_ok (r1 := r1) (r2 := r2) (rule := rule) r3 ha hb ov (fun q hq => hm q (List.mem_cons_of_mem _ hq))
    cases hc : (Nat.beq p.1 r1 && q_nb p.2.2 a) with
    | false => rw [hc] at h; exact ih h
    | true =>
      rw [hc] at h
      dsimp only [cond_true] at h
      rw [Bool.and_eq_true] at hc
      have e1 := q_beq hc.1
      have e2 := q_nb_ok hc.2
      cases hd : (match v_of A.2.1 r2 p.2.1 with
        | some b' => q_nb b b' && v_wk1 A p.2.1 rule
        | none => false) with
      | false => rw [hd] at h; exact ih h
      | true =>
        obtain ⟨j, g1, g2⟩ := r3.2.1 p (hm p List.mem_cons_self)
        rw [e2] at g2
        rw [e1] at g2
        split at hd
        · rename_i b' hb'
          rw [Bool.and_eq_true] at hd
          have e3 := q_nb_ok hd.1
          subst e3
          obtain ⟨j2, g3, g4⟩ := r3.2.1 _ (v_of_ok hb')
          have ej : (j : Int) = (j2 : Int) := q_r_inj g1 g3
          have ej : j = j2 := by omega
          subst ej
          exact ⟨j, q_inj (q_r_inj ha g2), q_inj (q_r_inj hb g4), v_wk1_ok r3 g1 hd.2⟩
        · cases hd
end HW
theorem v_sp_ok {L : Nat} {xs : Nat → Int32} {D : Nat} {mods : List (Nat × Nat × Nat)} {hd : Nat → Nat → Option v_Hp} {hk : v_Hk} {S0 : v_Sf} {R0 : v_Rf} (hMet : ∀ x, ∀ w ∈ v_rw x, w.1 < D → v_Met L xs v_ty v_Op x w) : ∀ (d' x : Nat) (as : List q_V) (A : v_A) (k : v_K), v_sp v_rw D mods d' x as A k = some true → ∀ (M' : g_M) (ρ : List Int) (ac : List Value) (S : v_Sf) (R : v_Rf) (Q : Option Value → v_Sf → v_Rf → Prop), g_mt x = some M' → q_al2 (q_rv ρ) as ac → v_ra (L, xs, (v_ty, mods, v_frz, hd, hk), v_Op, S0, R0) ρ A S R → v_KOk (L, xs, (v_ty, mods, v_frz, hd, hk), v_Op, S0, R0) ρ k Q → v_Tm (L, xs, (v_ty, mods, v_frz, hd, hk), v_Op, S0, R0) d' M' 0 (lv_args 0 ac) [] S R Q := by
  intro d' x as A k h M' ρ ac S R Q hM ra r3 hK
  have tk : ∀ (hi : Int) (row n : Nat) (a : q_N) (u : Int32), q_r ρ a u.toInt → (∀ j, v_frz row j j = false) → v_spt hi row n mods a A k = true → 0 ≤ u.toInt ∧ u.toInt ≤ hi ∧ ∀ S', v_Tb v_ty S' R → (∀ a j, ¬ (a = row ∧ j ≤ n) → S' a j = S a j) → Q (some (.int (v_pop u))) S' R := by
    intro hi row n a u hu hf hs
    unfold v_spt at hs
    replace hs := q_bifc hs
    obtain ⟨hc, hs⟩ := hs
    rw [Bool.and_eq_true] at hc
    have hb := v_in_ok hc.1 (q_iv_ok r3.1 hu)
    refine ⟨hb.1, hb.2, fun S' hT' hS' => ?_⟩
    obtain ⟨ρ1, e1, v, p1, p2, p3, p4⟩ := v_bin_ok r3.1 (op := 20) (by decide) hu (b := .inl 0) (y := 0) rfl hs
    have hne : ∀ a' j', v_md [(row, 0, n)] a' j' j' = false → S' a' j' = S a' j' := by
      intro a' j' hm
      refine hS' a' j' ?_
      rintro ⟨rfl, hj⟩
      have : v_md [(a', 0, n)] a' j' j' = true := by
        show (bif Nat.beq a' a' && (Nat.ble 0 j' && Nat.ble j' n) then true else false) = true
        have e : (Nat.beq a' a' && (Nat.ble 0 j' && Nat.ble j' n)) = true := by simp [hj]
        rw [e]
        rfl
      rw [this] at hm
      cases hm
    refine hK ρ1 (some (.inl v)) _ (some (.int (v_pop u))) S' R p1 p4 ⟨_, rfl, p3⟩ ⟨p2, fun q hq => ?_, r3.2.2.1, hT', v_fz_ok.1 S S' (fun a' j' hfz => hS' a' j' ?_) r3.2.2.2.2.1, fun a' j' hm => ?_⟩
    · obtain ⟨j, g1, g2⟩ := v_keep r3.1 r3.2.1 hne q hq
      exact ⟨j, q_r_px p1 g1, q_r_px p1 g2⟩
    · rintro ⟨rfl, -⟩
      rw [hf] at hfz
      cases hfz
    · rw [hS' a' j' ?_]
      · exact r3.2.2.2.2.2 a' j' hm
      · rintro ⟨rfl, hj⟩
        have hm : v_md mods a' j' j' = false := hm
        rw [v_md_mono hc.2 (Nat.zero_le _) hj] at hm
        cases hm
  unfold v_sp at h
  cases h1 : Nat.beq x 162 with
  | true =>
    rw [h1] at h
    have ex := q_beq h1
    subst ex
    dsimp only [cond_true] at h
    split at h
    · rename_i a
      obtain ⟨u, t, rfl, hu, r4⟩ := q_cons_i ra
      cases t with
      | cons _ _ => exact r4.elim
      | nil =>
        replace h := Option.some.inj h
        replace h := q_bifc h
        obtain ⟨hd1, h⟩ := h
        rw [mt_X12_sizeOf] at hM
        cases hM
        unfold v_spz at h
        obtain ⟨ρ1, e1, v, p1, p2, p3, p4⟩ := v_bin_ok r3.1 (op := 20) (by decide) hu (b := .inl 0) (y := 0) rfl h
        exact h_sizeOf u (hK ρ1 (some (.inl v)) _ (some (.int (v_pop u))) S R p1 p4 ⟨_, rfl, p3⟩ (v_ra_env r3 p1 (v_pr1_ok p2 p3 (q_r_px p1 hu))))
    · cases h
  | false =>
  rw [h1] at h
  dsimp only [cond_false] at h
  cases h2 : Nat.beq x 251 with
  | true =>
    rw [h2] at h
    have ex := q_beq h2
    subst ex
    dsimp only [cond_true] at h
    split at h
    · rename_i a
      obtain ⟨t, rfl, r4⟩ := q_cons_r ra
      obtain ⟨u, t, rfl, hu, r5⟩ := q_cons_i r4
      cases t with
      | cons _ _ => exact r5.elim
      | nil =>
        replace h := Option.some.inj h
        replace h := q_bifc h
        obtain ⟨hd1, h⟩ := h
        rw [Nat.ble_eq] at hd1
        obtain ⟨e', rfl⟩ : ∃ e', d' = e' + 1 := ⟨d' - 1, by omega⟩
        rw [mt_X12_takesSome] at hM
        cases hM
        obtain ⟨b1, b2, hq⟩ := tk 4095 152 12 a u hu (fun j => rfl) h
        exact h_X12_takesSome u S b1 (by omega) r3.2.2.2.1 hq
    · cases h
  | false =>
  rw [h2] at h
  dsimp only [cond_false] at h
  cases h3 : Nat.beq x 256 with
  | true =>
    rw [h3] at h
    have ex := q_beq h3
    subst ex
    dsimp only [cond_true] at h
    split at h
    · rename_i a
      obtain ⟨t, rfl, r4⟩ := q_cons_r ra
      obtain ⟨u, t, rfl, hu, r5⟩ := q_cons_i r4
      cases t with
      | cons _ _ => exact r5.elim
      | nil =>
        replace h := Option.some.inj h
        replace h := q_bifc h
        obtain ⟨hd1, h⟩ := h
        rw [Nat.ble_eq] at hd1
        obtain ⟨e', rfl⟩ : ∃ e', d' = e' + 1 := ⟨d' - 1, by omega⟩
        rw [mt_X12_takesPlaces] at hM
        cases hM
        obtain ⟨b1, b2, hq⟩ := tk 63 153 6 a u hu (fun j => rfl) h
        exact h_X12_takesPlaces u S b1 (by omega) r3.2.2.2.1 hq
    · cases h
  | false =>
  rw [h3] at h
  dsimp only [cond_false] at h
  cases h4 : Nat.beq x 198 with
  | true =>
    rw [h4] at h
    have ex := q_beq h4
    subst ex
    dsimp only [cond_true] at h
    split at h
    · rename_i a b
      obtain ⟨t, rfl, r4⟩ := q_cons_r ra
      obtain ⟨u, t, rfl, hu, r5⟩ := q_cons_i r4
      obtain ⟨v, t, rfl, hv, r6⟩ := q_cons_i r5
      cases t with
      | cons _ _ => exact r6.elim
      | nil =>
        replace h := Option.some.inj h
        replace h := q_bifc h
        obtain ⟨hd1, h⟩ := h
        rw [Bool.and_eq_true, Nat.ble_eq] at hd1
        have hD4 := q_blt hd1.2
        obtain ⟨e', rfl⟩ : ∃ e', d' = e' + 4 := ⟨d' - 4, by omega⟩
        rw [mt_X12_works] at hM
        cases hM
        unfold v_spw at h
        replace h := q_bifc h
        obtain ⟨hw, h⟩ := h
        simp only [Bool.and_eq_true, Bool.or_eq_true] at hw
        obtain ⟨hw, hm1, hm2⟩ := hw
        have hstr : v_stretch (S 105) u v := by
          rcases hw with hw | hw
          · obtain ⟨j, e1, e2, e3⟩ := v_wk_ok r3 hu hv A.2.1 (fun q hq => hq) hw
            subst e1 e2
            rcases e3 with e3 | ⟨-, kk, rfl, e3⟩
            · exact (r3.2.2.2.2.1.1 j e3).2.1
            · exact (r3.2.2.2.2.1.2 kk e3).1
          · obtain ⟨j, e1, e2, e3⟩ := v_wk_ok r3 hu hv A.2.1 (fun q hq => hq) hw
            subst e1 e2
            rcases e3 with e3 | ⟨e4, -⟩
            · exact (r3.2.2.2.2.1.1 j e3).1
            · cases e4
        refine h_works (hMet 197 rw_187 (List.mem_of_getElem? (i := 0) rfl) (Nat.lt_of_le_of_lt (Nat.le_of_ble_eq_true rfl) hD4)) (hMet 195 rw_185 (List.mem_of_getElem? (i := 0) rfl) (Nat.lt_of_le_of_lt (Nat.le_of_ble_eq_true rfl) hD4)) u v S R hstr r3.2.2.2.1 r3.2.2.2.2.1 (fun S' R' k1 k2 k3 => ?_)
        have hsub : v_sub [(114, 0, 240), (115, 0, 240)] mods = true := by
          show (v_md mods 114 0 240 && (v_md mods 115 0 240 && true)) = true
          rw [hm1, hm2]
          rfl
        refine hK ρ none _ none S' R' (q_px_rf ρ) h trivial ⟨r3.1, v_keep r3.1 r3.2.1 (fun a j hm => (k3 a j hm).1), fun q hq => ?_, k1, k2, fun a j hm => ?_⟩
        · obtain ⟨g3, g4⟩ := v_rk_in hq
          rw [(k3 _ _ (v_hit_md g4 (Nat.le_refl _) (Nat.le_refl _))).2]
          exact r3.2.2.1 q g3
        · have g1 := k3 a j (v_sub_md hsub hm)
          have g2 := r3.2.2.2.2.2 a j hm
          exact ⟨g1.1.trans g2.1, g1.2.trans g2.2⟩
    · cases h
  | false =>
  rw [h4] at h
  dsimp only [cond_false] at h
  cases h5 : Nat.beq x 284 with
  | true =>
    rw [h5] at h
    have ex := q_beq h5
    subst ex
    dsimp only [cond_true] at h
    split at h
    · rename_i r a b
      replace h := Option.some.inj h
      obtain ⟨w0, t, rfl, hw0, r4⟩ := q_cons ra
      obtain ⟨u, t, rfl, hu, r5⟩ := q_cons_i r4
      obtain ⟨e, he, h6⟩ := v_need_ok r3.1 hu h
      have r7 := v_ra_env r3 (q_px_rf ρ) he
      split at h6
      · rename_i w hw
        obtain ⟨g1, g2, g3, g4⟩ := v_find_ok hw
        have ra2 : q_al2 (q_rv ρ) [r, .inl (.inl u.toInt), b] (w0 :: .int u :: t) := ⟨hw0, ⟨u, rfl, rfl⟩, r5⟩
        exact v_post_ok (hMet _ w g1 g3) g2 hM (v_mt_ok he g4 ra2) r7 h6 hK
      · cases h6
    · cases h
  | false => rw [h5] at h; cases h
end Prt36
section Prt37
/-! bitCount, laysLessons -/
noncomputable def v_bc (v : Int32) : Int32 := (((((((v - (((v.toUInt32 >>> ((Int32.ofInt 1).toUInt32 &&& Int32.toUInt32 31)).toInt32) &&& (Int32.ofInt 1431655765))) &&& (Int32.ofInt 858993459)) + ((((v - (((v.toUInt32 >>> ((Int32.ofInt 1).toUInt32 &&& Int32.toUInt32 31)).toInt32) &&& (Int32.ofInt 1431655765))).toUInt32 >>> ((Int32.ofInt 2).toUInt32 &&& Int32.toUInt32 31)).toInt32) &&& (Int32.ofInt 858993459))) + (((((v - (((v.toUInt32 >>> ((Int32.ofInt 1).toUInt32 &&& Int32.toUInt32 31)).toInt32) &&& (Int32.ofInt 1431655765))) &&& (Int32.ofInt 858993459)) + ((((v - (((v.toUInt32 >>> ((Int32.ofInt 1).toUInt32 &&& Int32.toUInt32 31)).toInt32) &&& (Int32.ofInt 1431655765))).toUInt32 >>> ((Int32.ofInt 2).toUInt32 &&& Int32.toUInt32 31)).toInt32) &&& (Int32.ofInt 858993459))).toUInt32 >>> ((Int32.ofInt 4).toUInt32 &&& Int32.toUInt32 31)).toInt32)) &&& (Int32.ofInt 252645135)) + (((((((v - (((v.toUInt32 >>> ((Int32.ofInt 1).toUInt32 &&& Int32.toUInt32 31)).toInt32) &&& (Int32.ofInt 1431655765))) &&& (Int32.ofInt 858993459)) + ((((v - (((v.toUInt32 >>> ((Int32.ofInt 1).toUInt32 &&& Int32.toUInt32 31)).toInt32) &&& (Int32.ofInt 1431655765))).toUInt32 >>> ((Int32.ofInt 2).toUInt32 &&& Int32.toUInt32 31)).toInt32) &&& (Int32.ofInt 858993459))) + (((((v - (((v.toUInt32 >>> ((Int32.ofInt 1).toUInt32 &&& Int32.toUInt32 31)).toInt32) &&& (Int32.ofInt 1431655765))) &&& (Int32.ofInt 858993459)) + ((((v - (((v.toUInt32 >>> ((Int32.ofInt 1).toUInt32 &&& Int32.toUInt32 31)).toInt32) &&& (Int32.ofInt 1431655765))).toUInt32 >>> ((Int32.ofInt 2).toUInt32 &&& Int32.toUInt32 31)).toInt32) &&& (Int32.ofInt 858993459))).toUInt32 >>> ((Int32.ofInt 4).toUInt32 &&& Int32.toUInt32 31)).toInt32)) &&& (Int32.ofInt 252645135)).toUInt32 >>> ((Int32.ofInt 8).toUInt32 &&& Int32.toUInt32 31)).toInt32)) + ((((((((v - (((v.toUInt32 >>> ((Int32.ofInt 1).toUInt32 &&& Int32.toUInt32 31)).toInt32) &&& (Int32.ofInt 1431655765))) &&& (Int32.ofInt 858993459)) + ((((v - (((v.toUInt32 >>> ((Int32.ofInt 1).toUInt32 &&& Int32.toUInt32 31)).toInt32) &&& (Int32.ofInt 1431655765))).toUInt32 >>> ((Int32.ofInt 2).toUInt32 &&& Int32.toUInt32 31)).toInt32) &&& (Int32.ofInt 858993459))) + (((((v - (((v.toUInt32 >>> ((Int32.ofInt 1).toUInt32 &&& Int32.toUInt32 31)).toInt32) &&& (Int32.ofInt 1431655765))) &&& (Int32.ofInt 858993459)) + ((((v - (((v.toUInt32 >>> ((Int32.ofInt 1).toUInt32 &&& Int32.toUInt32 31)).toInt32) &&& (Int32.ofInt 1431655765))).toUInt32 >>> ((Int32.ofInt 2).toUInt32 &&& Int32.toUInt32 31)).toInt32) &&& (Int32.ofInt 858993459))).toUInt32 >>> ((Int32.ofInt 4).toUInt32 &&& Int32.toUInt32 31)).toInt32)) &&& (Int32.ofInt 252645135)) + (((((((v - (((v.toUInt32 >>> ((Int32.ofInt 1).toUInt32 &&& Int32.toUInt32 31)).toInt32) &&& (Int32.ofInt 1431655765))) &&& (Int32.ofInt 858993459)) + ((((v - (((v.toUInt32 >>> ((Int32.ofInt 1).toUInt32 &&& Int32.toUInt32 31)).toInt32) &&& (Int32.ofInt 1431655765))).toUInt32 >>> ((Int32.ofInt 2).toUInt32 &&& Int32.toUInt32 31)).toInt32) &&& (Int32.ofInt 858993459))) + (((((v - (((v.toUInt32 >>> ((Int32.ofInt 1).toUInt32 &&& Int32.toUInt32 31)).toInt32) &&& (Int32.ofInt 1431655765))) &&& (Int32.ofInt 858993459)) + ((((v - (((v.toUInt32 >>> ((Int32.ofInt 1).toUInt32 &&& Int32.toUInt32 31)).toInt32) &&& (Int32.ofInt 1431655765))).toUInt32 >>> ((Int32.ofInt 2).toUInt32 &&& Int32.toUInt32 31)).toInt32) &&& (Int32.ofInt 858993459))).toUInt32 >>> ((Int32.ofInt 4).toUInt32 &&& Int32.toUInt32 31)).toInt32)) &&& (Int32.ofInt 252645135)).toUInt32 >>> ((Int32.ofInt 8).toUInt32 &&& Int32.toUInt32 31)).toInt32)).toUInt32 >>> ((Int32.ofInt 16).toUInt32 &&& Int32.toUInt32 31)).toInt32)) &&& (Int32.ofInt 63)
theorem v_bc_b : ∀ k : Fin 1024, (q_ile 0 (v_bc (Int32.ofInt ((k : Nat) : Int))).toInt && q_ile (v_bc (Int32.ofInt ((k : Nat) : Int))).toInt 10) = true := by decide +kernel
theorem h_bc {L : Nat} {xs : Nat → Int32} {d : Nat} {S : v_Sf} {R : v_Rf} {Q : Option Value → v_Sf → v_Rf → Prop} (v : Int32) (hq : Q (some (.int (v_bc v))) S R) : w_T L xs d m_J6_bitCount_0f7a4 0 (lv_args 0 [.int v]) [] S R Q := by
  refine w_st rfl (fun _ => rfl) ?_
  refine w_st rfl (fun _ => rfl) ?_
  refine w_st rfl (fun _ => rfl) ?_
  refine w_st rfl (fun _ => rfl) ?_
  refine w_st rfl (fun _ => rfl) ?_
  refine w_st rfl (fun _ => rfl) ?_
  refine w_st rfl (fun _ => rfl) ?_
  refine w_st rfl (fun _ => rfl) ?_
  refine w_st rfl (fun _ => rfl) ?_
  refine w_st rfl (fun _ => rfl) ?_
  refine w_st rfl (fun _ => rfl) ?_
  refine w_st rfl (fun _ => rfl) ?_
  refine w_st rfl (fun _ => rfl) ?_
  refine w_st rfl (fun _ => rfl) ?_
  refine w_st rfl (fun _ => rfl) ?_
  refine w_st rfl (fun _ => rfl) ?_
  refine w_st rfl (fun _ => rfl) ?_
  refine w_st rfl (fun _ => rfl) ?_
  refine w_st rfl (fun _ => rfl) ?_
  refine w_st rfl (fun _ => rfl) ?_
  refine w_st rfl (fun _ => rfl) ?_
  refine w_st rfl (fun _ => rfl) ?_
  refine w_st rfl (fun _ => rfl) ?_
  refine w_st rfl (fun _ => rfl) ?_
  refine w_st rfl (fun _ => rfl) ?_
  refine w_st rfl (fun _ => rfl) ?_
  refine w_st rfl (fun _ => rfl) ?_
  refine w_st rfl (fun _ => rfl) ?_
  refine w_st rfl (fun _ => rfl) ?_
  refine w_st rfl (fun _ => rfl) ?_
  refine w_st rfl (fun _ => rfl) ?_
  refine w_st rfl (fun _ => rfl) ?_
  refine w_st rfl (fun _ => rfl) ?_
  refine w_st rfl (fun _ => rfl) ?_
  refine w_st rfl (fun _ => rfl) ?_
  refine w_st rfl (fun _ => rfl) ?_
  refine w_st rfl (fun _ => rfl) ?_
  refine w_st rfl (fun _ => rfl) ?_
  refine w_st rfl (fun _ => rfl) ?_
  refine w_st rfl (fun _ => rfl) ?_
  refine w_st rfl (fun _ => rfl) ?_
  show w_T L xs d m_J6_bitCount_0f7a4 52 [(0, .int (((((((v - (((v.toUInt32 >>> ((Int32.ofInt 1).toUInt32 &&& Int32.toUInt32 31)).toInt32) &&& (Int32.ofInt 1431655765))) &&& (Int32.ofInt 858993459)) + ((((v - (((v.toUInt32 >>> ((Int32.ofInt 1).toUInt32 &&& Int32.toUInt32 31)).toInt32) &&& (Int32.ofInt 1431655765))).toUInt32 >>> ((Int32.ofInt 2).toUInt32 &&& Int32.toUInt32 31)).toInt32) &&& (Int32.ofInt 858993459))) + (((((v - (((v.toUInt32 >>> ((Int32.ofInt 1).toUInt32 &&& Int32.toUInt32 31)).toInt32) &&& (Int32.ofInt 1431655765))) &&& (Int32.ofInt 858993459)) + ((((v - (((v.toUInt32 >>> ((Int32.ofInt 1).toUInt32 &&& Int32.toUInt32 31)).toInt32) &&& (Int32.ofInt 1431655765))).toUInt32 >>> ((Int32.ofInt 2).toUInt32 &&& Int32.toUInt32 31)).toInt32) &&& (Int32.ofInt 858993459))).toUInt32 >>> ((Int32.ofInt 4).toUInt32 &&& Int32.toUInt32 31)).toInt32)) &&& (Int32.ofInt 252645135)) + (((((((v - (((v.toUInt32 >>> ((Int32.ofInt 1).toUInt32 &&& Int32.toUInt32 31)).toInt32) &&& (Int32.ofInt 1431655765))) &&& (Int32.ofInt 858993459)) + ((((v - (((v.toUInt32 >>> ((Int32.ofInt 1).toUInt32 &&& Int32.toUInt32 31)).toInt32) &&& (Int32.ofInt 1431655765))).toUInt32 >>> ((Int32.ofInt 2).toUInt32 &&& Int32.toUInt32 31)).toInt32) &&& (Int32.ofInt 858993459))) + (((((v - (((v.toUInt32 >>> ((Int32.ofInt 1).toUInt32 &&& Int32.toUInt32 31)).toInt32) &&& (Int32.ofInt 1431655765))) &&& (Int32.ofInt 858993459)) + ((((v - (((v.toUInt32 >>> ((Int32.ofInt 1).toUInt32 &&& Int32.toUInt32 31)).toInt32) &&& (Int32.ofInt 1431655765))).toUInt32 >>> ((Int32.ofInt 2).toUInt32 &&& Int32.toUInt32 31)).toInt32) &&& (Int32.ofInt 858993459))).toUInt32 >>> ((Int32.ofInt 4).toUInt32 &&& Int32.toUInt32 31)).toInt32)) &&& (Int32.ofInt 252645135)).toUInt32 >>> ((Int32.ofInt 8).toUInt32 &&& Int32.toUInt32 31)).toInt32)) + ((((((((v - (((v.toUInt32 >>> ((Int32.ofInt 1).toUInt32 &&& Int32.toUInt32 31)).toInt32) &&& (Int32.ofInt 1431655765))) &&& (Int32.ofInt 858993459)) + ((((v - (((v.toUInt32 >>> ((Int32.ofInt 1).toUInt32 &&& Int32.toUInt32 31)).toInt32) &&& (Int32.ofInt 1431655765))).toUInt32 >>> ((Int32.ofInt 2).toUInt32 &&& Int32.toUInt32 31)).toInt32) &&& (Int32.ofInt 858993459))) + (((((v - (((v.toUInt32 >>> ((Int32.ofInt 1).toUInt32 &&& Int32.toUInt32 31)).toInt32) &&& (Int32.ofInt 1431655765))) &&& (Int32.ofInt 858993459)) + ((((v - (((v.toUInt32 >>> ((Int32.ofInt 1).toUInt32 &&& Int32.toUInt32 31)).toInt32) &&& (Int32.ofInt 1431655765))).toUInt32 >>> ((Int32.ofInt 2).toUInt32 &&& Int32.toUInt32 31)).toInt32) &&& (Int32.ofInt 858993459))).toUInt32 >>> ((Int32.ofInt 4).toUInt32 &&& Int32.toUInt32 31)).toInt32)) &&& (Int32.ofInt 252645135)) + (((((((v - (((v.toUInt32 >>> ((Int32.ofInt 1).toUInt32 &&& Int32.toUInt32 31)).toInt32) &&& (Int32.ofInt 1431655765))) &&& (Int32.ofInt 858993459)) + ((((v - (((v.toUInt32 >>> ((Int32.ofInt 1).toUInt32 &&& Int32.toUInt32 31)).toInt32) &&& (Int32.ofInt 1431655765))).toUInt32 >>> ((Int32.ofInt 2).toUInt32 &&& Int32.toUInt32 31)).toInt32) &&& (Int32.ofInt 858993459))) + (((((v - (((v.toUInt32 >>> ((Int32.ofInt 1).toUInt32 &&& Int32.toUInt32 31)).toInt32) &&& (Int32.ofInt 1431655765))) &&& (Int32.ofInt 858993459)) + ((((v - (((v.toUInt32 >>> ((Int32.ofInt 1).toUInt32 &&& Int32.toUInt32 31)).toInt32) &&& (Int32.ofInt 1431655765))).toUInt32 >>> ((Int32.ofInt 2).toUInt32 &&& Int32.toUInt32 31)).toInt32) &&& (Int32.ofInt 858993459))).toUInt32 >>> ((Int32.ofInt 4).toUInt32 &&& Int32.toUInt32 31)).toInt32)) &&& (Int32.ofInt 252645135)).toUInt32 >>> ((Int32.ofInt 8).toUInt32 &&& Int32.toUInt32 31)).toInt32)).toUInt32 >>> ((Int32.ofInt 16).toUInt32 &&& Int32.toUInt32 31)).toInt32)))] [.int ((((((((v - (((v.toUInt32 >>> ((Int32.ofInt 1).toUInt32 &&& Int32.toUInt32 31)).toInt32) &&& (Int32.ofInt 1431655765))) &&& (Int32.ofInt 858993459)) + ((((v - (((v.toUInt32 >>> ((Int32.ofInt 1).toUInt32 &&& Int32.toUInt32 31)).toInt32) &&& (Int32.ofInt 1431655765))).toUInt32 >>> ((Int32.ofInt 2).toUInt32 &&& Int32.toUInt32 31)).toInt32) &&& (Int32.ofInt 858993459))) + (((((v - (((v.toUInt32 >>> ((Int32.ofInt 1).toUInt32 &&& Int32.toUInt32 31)).toInt32) &&& (Int32.ofInt 1431655765))) &&& (Int32.ofInt 858993459)) + ((((v - (((v.toUInt32 >>> ((Int32.ofInt 1).toUInt32 &&& Int32.toUInt32 31)).toInt32) &&& (Int32.ofInt 1431655765))).toUInt32 >>> ((Int32.ofInt 2).toUInt32 &&& Int32.toUInt32 31)).toInt32) &&& (Int32.ofInt 858993459))).toUInt32 >>> ((Int32.ofInt 4).toUInt32 &&& Int32.toUInt32 31)).toInt32)) &&& (Int32.ofInt 252645135)) + (((((((v - (((v.toUInt32 >>> ((Int32.ofInt 1).toUInt32 &&& Int32.toUInt32 31)).toInt32) &&& (Int32.ofInt 1431655765))) &&& (Int32.ofInt 858993459)) + ((((v - (((v.toUInt32 >>> ((Int32.ofInt 1).toUInt32 &&& Int32.toUInt32 31)).toInt32) &&& (Int32.ofInt 1431655765))).toUInt32 >>> ((Int32.ofInt 2).toUInt32 &&& Int32.toUInt32 31)).toInt32) &&& (Int32.ofInt 858993459))) + (((((v - (((v.toUInt32 >>> ((Int32.ofInt 1).toUInt32 &&& Int32.toUInt32 31)).toInt32) &&& (Int32.ofInt 1431655765))) &&& (Int32.ofInt 858993459)) + ((((v - (((v.toUInt32 >>> ((Int32.ofInt 1).toUInt32 &&& Int32.toUInt32 31)).toInt32) &&& (Int32.ofInt 1431655765))).toUInt32 >>> ((Int32.ofInt 2).toUInt32 &&& Int32.toUInt32 31)).toInt32) &&& (Int32.ofInt 858993459))).toUInt32 >>> ((Int32.ofInt 4).toUInt32 &&& Int32.toUInt32 31)).toInt32)) &&& (Int32.ofInt 252645135)).toUInt32 >>> ((Int32.ofInt 8).toUInt32 &&& Int32.toUInt32 31)).toInt32)) + ((((((((v - (((v.toUInt32 >>> ((Int32.ofInt 1).toUInt32 &&& Int32.toUInt32 31)).toInt32) &&& (Int32.ofInt 1431655765))) &&& (Int32.ofInt 858993459)) + ((((v - (((v.toUInt32 >>> ((Int32.ofInt 1).toUInt32 &&& Int32.toUInt32 31)).toInt32) &&& (Int32.ofInt 1431655765))).toUInt32 >>> ((Int32.ofInt 2).toUInt32 &&& Int32.toUInt32 31)).toInt32) &&& (Int32.ofInt 858993459))) + (((((v - (((v.toUInt32 >>> ((Int32.ofInt 1).toUInt32 &&& Int32.toUInt32 31)).toInt32) &&& (Int32.ofInt 1431655765))) &&& (Int32.ofInt 858993459)) + ((((v - (((v.toUInt32 >>> ((Int32.ofInt 1).toUInt32 &&& Int32.toUInt32 31)).toInt32) &&& (Int32.ofInt 1431655765))).toUInt32 >>> ((Int32.ofInt 2).toUInt32 &&& Int32.toUInt32 31)).toInt32) &&& (Int32.ofInt 858993459))).toUInt32 >>> ((Int32.ofInt 4).toUInt32 &&& Int32.toUInt32 31)).toInt32)) &&& (Int32.ofInt 252645135)) + (((((((v - (((v.toUInt32 >>> ((Int32.ofInt 1).toUInt32 &&& Int32.toUInt32 31)).toInt32) &&& (Int32.ofInt 1431655765))) &&& (Int32.ofInt 858993459)) + ((((v - (((v.toUInt32 >>> ((Int32.ofInt 1).toUInt32 &&& Int32.toUInt32 31)).toInt32) &&& (Int32.ofInt 1431655765))).toUInt32 >>> ((Int32.ofInt 2).toUInt32 &&& Int32.toUInt32 31)).toInt32) &&& (Int32.ofInt 858993459))) + (((((v - (((v.toUInt32 >>> ((Int32.ofInt 1).toUInt32 &&& Int32.toUInt32 31)).toInt32) &&& (Int32.ofInt 1431655765))) &&& (Int32.ofInt 858993459)) + ((((v - (((v.toUInt32 >>> ((Int32.ofInt 1).toUInt32 &&& Int32.toUInt32 31)).toInt32) &&& (Int32.ofInt 1431655765))).toUInt32 >>> ((Int32.ofInt 2).toUInt32 &&& Int32.toUInt32 31)).toInt32) &&& (Int32.ofInt 858993459))).toUInt32 >>> ((Int32.ofInt 4).toUInt32 &&& Int32.toUInt32 31)).toInt32)) &&& (Int32.ofInt 252645135)).toUInt32 >>> ((Int32.ofInt 8).toUInt32 &&& Int32.toUInt32 31)).toInt32)).toUInt32 >>> ((Int32.ofInt 16).toUInt32 &&& Int32.toUInt32 31)).toInt32)) &&& (Int32.ofInt 63))] S R Q
  refine w_ret rfl rfl ?_
  exact hq
theorem hr_J6_bitCount_0f7a4 {L : Nat} {xs : Nat → Int32} (ih : ∀ x, ∀ w ∈ v_rw x, w.1 < rw_276.1 → v_Met L xs v_ty v_Op x w) : v_Met L xs v_ty v_Op 299 rw_276 := by
  intro M hM ac S R ha hT hO
  rw [mt_J6_bitCount_0f7a4] at hM
  cases hM
  match ac, ha with
  | [w], ⟨⟨u, hu, b1, b2⟩, _⟩ =>
    subst hu
    have b1 : 0 ≤ u.toInt := b1
    have b2 : u.toInt ≤ 1023 := b2
    have h := v_bc_b ⟨u.toInt.toNat, by omega⟩
    have e : Int32.ofInt ((u.toInt.toNat : Nat) : Int) = u := by rw [show ((u.toInt.toNat : Nat) : Int) = u.toInt by omega, q_of]
    dsimp only at h
    rw [e, Bool.and_eq_true, q_ile_ok, q_ile_ok] at h
    exact h_bc u ⟨hT, hO, ⟨_, rfl, h.1, h.2⟩, v_Fr_rf _ _ _⟩
noncomputable abbrev m_X12_laysLessons : g_M := (g_cn 12, yX12_laysLessons, cX12_laysLessons, 7, (some .boolean), g_look2 ttX12_laysLessons)
set_option maxRecDepth 20000 in
theorem mt_X12_laysLessons : g_mt 270 = some m_X12_laysLessons := rfl
section LL
variable {L : Nat} {xs : Nat → Int32} {d : Nat} {Q : Option Value → v_Sf → v_Rf → Prop}
theorem w_orb {x y : Int32} (h1 : 0 ≤ x.toInt) (h2 : x.toInt ≤ 1023) (h3 : 0 ≤ y.toInt) (h4 : y.toInt ≤ 1023) : x.toInt ≤ (x ||| y).toInt ∧ (x ||| y).toInt ≤ 1023 := by
  have h := v_or_ok (x := x) (y := y) (p := (x.toInt, 1023)) (q := (0, 1023)) ⟨Int.le_refl _, h2⟩ ⟨h3, h4⟩ h1 (Int.le_refl _)
  have e : v_cap 1023 1023 = 1023 := by decide
  have m1 := v_mx_l x.toInt 0
  dsimp only at h
  rw [e] at h
  omega
theorem w_andl {x y : Int32} (h1 : 0 ≤ x.toInt) : 0 ≤ (x &&& y).toInt ∧ (x &&& y).toInt ≤ x.toInt := by
  rw [q_and_comm]
  exact q_and_iv h1
theorem h_ll1 (S : v_Sf) (R : v_Rf) (g hb was more : Int32) (g1 : 0 ≤ g.toInt) (g2 : g.toInt ≤ 11) (hT : v_Tb v_ty S R) : ∀ (m h : Nat) (due : Int32), h + m = 10 → 0 ≤ due.toInt → due.toInt ≤ 1023 → was.toInt ≤ due.toInt → (∀ due' : Int32, 0 ≤ due'.toInt → due'.toInt ≤ 1023 → was.toInt ≤ due'.toInt → w_T L xs (d + 3) m_X12_laysLessons 66 [(6, .int (Int32.ofInt 10)), (3, .int (due')), (5, .int was), (4, .int more), (0, .ref 100), (1, .int g), (2, .int hb)] [] S R Q) → w_T L xs (d + 3) m_X12_laysLessons 25 [(6, .int (Int32.ofInt (h : Int))), (3, .int due), (5, .int was), (4, .int more), (0, .ref 100), (1, .int g), (2, .int hb)] [] S R Q := by
  have hN : v_TbC S R 132 _ := hT 132 _ rfl
  have e10 : (Int32.ofInt 10).toInt = 10 := by decide
  intro m
  induction m with
  | zero =>
    intro h due hm d1 d2 d3 k
    have eh := w_nat (k := h) (by omega)
    obtain rfl : h = 10 := by omega
    refine w_st rfl (fun _ => rfl) ?_
    refine w_st rfl (fun _ => rfl) ?_
    show w_T L xs (d + 3) m_X12_laysLessons 29 [(6, .int (Int32.ofInt ((10 : Nat) : Int))), (3, .int due), (5, .int was), (4, .int more), (0, .ref 100), (1, .int g), (2, .int hb)] [.int (Int32.ofInt 10), .int (Int32.ofInt ((10 : Nat) : Int))] S R Q
    refine w_st rfl (fun _ => rfl) ?_
    show w_T L xs (d + 3) m_X12_laysLessons 66 [(6, .int (Int32.ofInt ((10 : Nat) : Int))), (3, .int due), (5, .int was), (4, .int more), (0, .ref 100), (1, .int g), (2, .int hb)] [] S R Q
    exact k due d1 d2 d3
  | succ m ih =>
    intro h due hm d1 d2 d3 k
    have eh := w_nat (k := h) (by omega)
    have ehn : (Int32.ofInt (h : Int)).toInt.toNat = h := by rw [eh]; omega
    have hn := hN h (by omega)
    refine w_st rfl (fun _ => rfl) ?_
    refine w_st rfl (fun _ => rfl) ?_
    show w_T L xs (d + 3) m_X12_laysLessons 29 [(6, .int (Int32.ofInt (h : Int))), (3, .int due), (5, .int was), (4, .int more), (0, .ref 100), (1, .int g), (2, .int hb)] [.int (Int32.ofInt 10), .int (Int32.ofInt (h : Int))] S R Q
    refine w_br (P := (Int32.ofInt 10) ≤ (Int32.ofInt (h : Int))) rfl (fun _ => rfl) (fun h29 => ?_) (fun h29 => ?_)
    · exfalso; rw [q_le32, e10, eh] at h29; omega
    · refine w_st rfl (fun _ => rfl) ?_
      refine w_st rfl (fun _ => rfl) ?_
      show w_T L xs (d + 3) m_X12_laysLessons 35 [(6, .int (Int32.ofInt (h : Int))), (3, .int due), (5, .int was), (4, .int more), (0, .ref 100), (1, .int g), (2, .int hb)] [.int (Int32.ofInt (h : Int)), .int due] S R Q
      refine w_cs rfl (by decide) mt_X12_has (fun _ => rfl) (Nat.le_of_ble_eq_true rfl) (Nat.le_of_ble_eq_true rfl) ?_
      show w_T L xs _ m_X12_has 0 (lv_args 0 [.int due, .int (Int32.ofInt (h : Int))]) [] S R _
      refine h_has _ _ ?_
      show w_T L xs (d + 3) m_X12_laysLessons 38 [(6, .int (Int32.ofInt (h : Int))), (3, .int due), (5, .int was), (4, .int more), (0, .ref 100), (1, .int g), (2, .int hb)] [.int (if (due >>> ((Int32.ofInt (h : Int)) &&& 31)) &&& 1 = 1 then (1 : Int32) else 0)] S R Q
      refine w_br (P := (if (due >>> ((Int32.ofInt (h : Int)) &&& 31)) &&& 1 = 1 then (1 : Int32) else 0) = 0) rfl (fun _ => rfl) (fun h38 => ?_) (fun h38 => ?_)
      · refine w_st rfl (fun _ => rfl) ?_
        refine w_st rfl (fun _ => rfl) ?_
        show w_T L xs (d + 3) m_X12_laysLessons 25 [(6, .int ((Int32.ofInt (h : Int)) + Int32.ofInt 1)), (3, .int due), (5, .int was), (4, .int more), (0, .ref 100), (1, .int g), (2, .int hb)] [] S R Q
        rw [w_inc]
        exact ih (h + 1) due (by omega) d1 d2 d3 k
      · refine w_st rfl (fun _ => rfl) ?_
        refine w_st rfl (fun _ => rfl) ?_
        show w_T L xs (d + 3) m_X12_laysLessons 43 [(6, .int (Int32.ofInt (h : Int))), (3, .int due), (5, .int was), (4, .int more), (0, .ref 100), (1, .int g), (2, .int hb)] [.ref 100, .int due] S R Q
        refine w_getr rfl v_tyM rfl ?_
        refine w_st rfl (fun _ => rfl) ?_
        show w_T L xs (d + 3) m_X12_laysLessons 48 [(6, .int (Int32.ofInt (h : Int))), (3, .int due), (5, .int was), (4, .int more), (0, .ref 100), (1, .int g), (2, .int hb)] [.int (Int32.ofInt (h : Int)), .ref 133, .int due] S R Q
        refine w_iald rfl rfl (by rw [eh]; omega) (by rw [eh]; omega) ?_
        rw [ehn]
        refine w_st rfl (fun _ => rfl) ?_
        show w_T L xs (d + 3) m_X12_laysLessons 50 [(6, .int (Int32.ofInt (h : Int))), (3, .int due), (5, .int was), (4, .int more), (0, .ref 100), (1, .int g), (2, .int hb)] [.ref 100, .int (S 132 h), .int due] S R Q
        refine w_getr rfl v_tyM rfl ?_
        refine w_st rfl (fun _ => rfl) ?_
        show w_T L xs (d + 3) m_X12_laysLessons 54 [(6, .int (Int32.ofInt (h : Int))), (3, .int due), (5, .int was), (4, .int more), (0, .ref 100), (1, .int g), (2, .int hb)] [.int g, .ref 123, .int (S 132 h), .int due] S R Q
        refine w_iald rfl rfl (by omega) (by omega) ?_
        refine w_st rfl (fun _ => rfl) ?_
        refine w_st rfl (fun _ => rfl) ?_
        refine w_st rfl (fun _ => rfl) ?_
        refine w_st rfl (fun _ => rfl) ?_
        refine w_st rfl (fun _ => rfl) ?_
        refine w_st rfl (fun _ => rfl) ?_
        refine w_st rfl (fun _ => rfl) ?_
        show w_T L xs (d + 3) m_X12_laysLessons 25 [(6, .int ((Int32.ofInt (h : Int)) + Int32.ofInt 1)), (3, .int (due ||| ((S 132 h) &&& ((S 122 g.toInt.toNat) ^^^ (Int32.ofInt (-1)))))), (5, .int was), (4, .int more), (0, .ref 100), (1, .int g), (2, .int hb)] [] S R Q
        rw [w_inc]
        have hx := w_andl (x := S 132 h) (y := S 122 g.toInt.toNat ^^^ Int32.ofInt (-1)) hn.1
        have ho := w_orb d1 d2 hx.1 (by have := hn.2; omega)
        exact ih (h + 1) _ (by omega) (by omega) ho.2 (by omega) k
theorem h_ll2 (S : v_Sf) (R : v_Rf) (g hb : Int32) (g1 : 0 ≤ g.toInt) (g2 : g.toInt ≤ 11) (hT : v_Tb v_ty S R) : ∀ (m : Nat) (due more a b : Int32), (more = Int32.ofInt 0 ∧ 2 * (1023 - due.toInt).toNat < m ∨ more = Int32.ofInt 1 ∧ 2 * (1023 - due.toInt).toNat + 1 < m) → 0 ≤ due.toInt → due.toInt ≤ 1023 → (∀ due' a' b' : Int32, 0 ≤ due'.toInt → due'.toInt ≤ 1023 → w_T L xs (d + 3) m_X12_laysLessons 82 [(4, .int (Int32.ofInt 0)), (3, .int (due')), (5, .int (a')), (6, .int (b')), (0, .ref 100), (1, .int g), (2, .int hb)] [] S R Q) → w_T L xs (d + 3) m_X12_laysLessons 14 [(4, .int more), (3, .int due), (5, .int a), (6, .int b), (0, .ref 100), (1, .int g), (2, .int hb)] [] S R Q := by
  intro m
  induction m with
  | zero =>
    intro due more a b hm
    omega
  | succ m ih =>
    intro due more a b hm d1 d2 k
    rcases hm with ⟨rfl, hm⟩ | ⟨rfl, hm⟩
    · refine w_st rfl (fun _ => rfl) ?_
      show w_T L xs (d + 3) m_X12_laysLessons 16 [(4, .int (Int32.ofInt 0)), (3, .int due), (5, .int a), (6, .int b), (0, .ref 100), (1, .int g), (2, .int hb)] [.int (Int32.ofInt 0)] S R Q
      refine w_st rfl (fun _ => rfl) ?_
      show w_T L xs (d + 3) m_X12_laysLessons 82 [(4, .int (Int32.ofInt 0)), (3, .int due), (5, .int a), (6, .int b), (0, .ref 100), (1, .int g), (2, .int hb)] [] S R Q
      exact k due a b d1 d2
    · refine w_st rfl (fun _ => rfl) ?_
      show w_T L xs (d + 3) m_X12_laysLessons 16 [(4, .int (Int32.ofInt 1)), (3, .int due), (5, .int a), (6, .int b), (0, .ref 100), (1, .int g), (2, .int hb)] [.int (Int32.ofInt 1)] S R Q
      refine w_st rfl (fun _ => rfl) ?_
      refine w_st rfl (fun _ => rfl) ?_
      refine w_st rfl (fun _ => rfl) ?_
      refine w_st rfl (fun _ => rfl) ?_
      refine w_st rfl (fun _ => rfl) ?_
      show w_T L xs (d + 3) m_X12_laysLessons 25 [(6, .int (Int32.ofInt 0)), (5, .int due), (4, .int (Int32.ofInt 1)), (3, .int due), (0, .ref 100), (1, .int g), (2, .int hb)] [] S R Q
      refine w_lc (b := [(6, .int (Int32.ofInt 0)), (3, .int due), (5, .int due), (4, .int (Int32.ofInt 1)), (0, .ref 100), (1, .int g), (2, .int hb)]) (show ([6, 5, 4, 3, 0, 1, 2] : List Nat).Nodup by decide) (show ([6, 3, 5, 4, 0, 1, 2] : List Nat).Nodup by decide) (fun i => match i with | 0 => rfl | 1 => rfl | 2 => rfl | 3 => rfl | 4 => rfl | 5 => rfl | 6 => rfl | _ + 7 => rfl) ?_
      refine h_ll1 S R g hb _ _ g1 g2 hT 10 0 _ rfl d1 d2 (Int.le_refl _) (fun due' k1 k2 k3 => ?_)
      refine w_st rfl (fun _ => rfl) ?_
      refine w_st rfl (fun _ => rfl) ?_
      show w_T L xs (d + 3) m_X12_laysLessons 69 [(6, .int (Int32.ofInt 10)), (3, .int (due')), (5, .int due), (4, .int (Int32.ofInt 1)), (0, .ref 100), (1, .int g), (2, .int hb)] [.int due, .int (due')] S R Q
      refine w_br (P := (due') = due) rfl (fun _ => rfl) (fun h69 => ?_) (fun h69 => ?_)
      · refine w_st rfl (fun _ => rfl) ?_
        refine w_st rfl (fun _ => rfl) ?_
        refine w_st rfl (fun _ => rfl) ?_
        show w_T L xs (d + 3) m_X12_laysLessons 14 [(4, .int (Int32.ofInt 0)), (6, .int (Int32.ofInt 10)), (3, .int (due')), (5, .int due), (0, .ref 100), (1, .int g), (2, .int hb)] [] S R Q
        refine w_lc (b := [(4, .int (Int32.ofInt 0)), (3, .int (due')), (5, .int due), (6, .int (Int32.ofInt 10)), (0, .ref 100), (1, .int g), (2, .int hb)]) (show ([4, 6, 3, 5, 0, 1, 2] : List Nat).Nodup by decide) (show ([4, 3, 5, 6, 0, 1, 2] : List Nat).Nodup by decide) (fun i => match i with | 0 => rfl | 1 => rfl | 2 => rfl | 3 => rfl | 4 => rfl | 5 => rfl | 6 => rfl | _ + 7 => rfl) ?_
        exact ih due' _ _ _ (Or.inl ⟨rfl, by omega⟩) k1 k2 k
      · refine w_st rfl (fun _ => rfl) ?_
        refine w_st rfl (fun _ => rfl) ?_
        refine w_st rfl (fun _ => rfl) ?_
        refine w_st rfl (fun _ => rfl) ?_
        show w_T L xs (d + 3) m_X12_laysLessons 14 [(4, .int (Int32.ofInt 1)), (6, .int (Int32.ofInt 10)), (3, .int (due')), (5, .int due), (0, .ref 100), (1, .int g), (2, .int hb)] [] S R Q
        refine w_lc (b := [(4, .int (Int32.ofInt 1)), (3, .int (due')), (5, .int due), (6, .int (Int32.ofInt 10)), (0, .ref 100), (1, .int g), (2, .int hb)]) (show ([4, 6, 3, 5, 0, 1, 2] : List Nat).Nodup by decide) (show ([4, 3, 5, 6, 0, 1, 2] : List Nat).Nodup by decide) (fun i => match i with | 0 => rfl | 1 => rfl | 2 => rfl | 3 => rfl | 4 => rfl | 5 => rfl | 6 => rfl | _ + 7 => rfl) ?_
        have hne : ¬ due'.toInt = due.toInt := fun e => h69 (q_inj e)
        exact ih due' _ _ _ (Or.inr ⟨rfl, by omega⟩) k1 k2 k
theorem h_ll3 (S : v_Sf) (R : v_Rf) (g hb had due mo : Int32) (hT : v_Tb v_ty S R) (k : ∀ q : Nat, q ≤ 10 → (q < 10 → (due >>> (Int32.ofInt (q : Int) &&& 31)) &&& 1 = 1) → w_T L xs (d + 3) m_X12_laysLessons 139 [(6, .int (Int32.ofInt (q : Int))), (5, .int had), (3, .int due), (4, .int mo), (0, .ref 100), (1, .int g), (2, .int hb)] [] S R Q) : ∀ (m h : Nat), h + m = 10 → w_T L xs (d + 3) m_X12_laysLessons 102 [(6, .int (Int32.ofInt (h : Int))), (5, .int had), (3, .int due), (4, .int mo), (0, .ref 100), (1, .int g), (2, .int hb)] [] S R Q := by
  have e10 : (Int32.ofInt 10).toInt = 10 := by decide
  intro m
  induction m with
  | zero =>
    intro h hm
    obtain rfl : h = 10 := by omega
    refine w_st rfl (fun _ => rfl) ?_
    refine w_st rfl (fun _ => rfl) ?_
    show w_T L xs (d + 3) m_X12_laysLessons 106 [(6, .int (Int32.ofInt ((10 : Nat) : Int))), (5, .int had), (3, .int due), (4, .int mo), (0, .ref 100), (1, .int g), (2, .int hb)] [.int (Int32.ofInt 10), .int (Int32.ofInt ((10 : Nat) : Int))] S R Q
    refine w_st rfl (fun _ => rfl) ?_
    show w_T L xs (d + 3) m_X12_laysLessons 139 [(6, .int (Int32.ofInt ((10 : Nat) : Int))), (5, .int had), (3, .int due), (4, .int mo), (0, .ref 100), (1, .int g), (2, .int hb)] [] S R Q
    exact k 10 (Nat.le_refl _) (fun h => by omega)
  | succ m ih =>
    intro h hm
    have eh := w_nat (k := h) (by omega)
    have ehn : (Int32.ofInt (h : Int)).toInt.toNat = h := by rw [eh]; omega
    refine w_st rfl (fun _ => rfl) ?_
    refine w_st rfl (fun _ => rfl) ?_
    show w_T L xs (d + 3) m_X12_laysLessons 106 [(6, .int (Int32.ofInt (h : Int))), (5, .int had), (3, .int due), (4, .int mo), (0, .ref 100), (1, .int g), (2, .int hb)] [.int (Int32.ofInt 10), .int (Int32.ofInt (h : Int))] S R Q
    refine w_br (P := (Int32.ofInt 10) ≤ (Int32.ofInt (h : Int))) rfl (fun _ => rfl) (fun h106 => ?_) (fun h106 => ?_)
    · exfalso; rw [q_le32, e10, eh] at h106; omega
    · refine w_st rfl (fun _ => rfl) ?_
      refine w_st rfl (fun _ => rfl) ?_
      show w_T L xs (d + 3) m_X12_laysLessons 112 [(6, .int (Int32.ofInt (h : Int))), (5, .int had), (3, .int due), (4, .int mo), (0, .ref 100), (1, .int g), (2, .int hb)] [.int (Int32.ofInt (h : Int)), .int due] S R Q
      refine w_cs rfl (by decide) mt_X12_has (fun _ => rfl) (Nat.le_of_ble_eq_true rfl) (Nat.le_of_ble_eq_true rfl) ?_
      show w_T L xs _ m_X12_has 0 (lv_args 0 [.int due, .int (Int32.ofInt (h : Int))]) [] S R _
      refine h_has _ _ ?_
      show w_T L xs (d + 3) m_X12_laysLessons 115 [(6, .int (Int32.ofInt (h : Int))), (5, .int had), (3, .int due), (4, .int mo), (0, .ref 100), (1, .int g), (2, .int hb)] [.int (if (due >>> ((Int32.ofInt (h : Int)) &&& 31)) &&& 1 = 1 then (1 : Int32) else 0)] S R Q
      refine w_br (P := (if (due >>> ((Int32.ofInt (h : Int)) &&& 31)) &&& 1 = 1 then (1 : Int32) else 0) = 0) rfl (fun _ => rfl) (fun h115 => ?_) (fun h115 => ?_)
      · refine w_st rfl (fun _ => rfl) ?_
        refine w_st rfl (fun _ => rfl) ?_
        show w_T L xs (d + 3) m_X12_laysLessons 102 [(6, .int ((Int32.ofInt (h : Int)) + Int32.ofInt 1)), (5, .int had), (3, .int due), (4, .int mo), (0, .ref 100), (1, .int g), (2, .int hb)] [] S R Q
        rw [w_inc]
        exact ih (h + 1) (by omega)
      · have hbit : (due >>> (Int32.ofInt (h : Int) &&& 31)) &&& 1 = 1 := Decidable.byContradiction (fun hn => h115 (by rw [if_neg hn]))
        refine w_st rfl (fun _ => rfl) ?_
        show w_T L xs (d + 3) m_X12_laysLessons 119 [(6, .int (Int32.ofInt (h : Int))), (5, .int had), (3, .int due), (4, .int mo), (0, .ref 100), (1, .int g), (2, .int hb)] [.ref 100] S R Q
        refine w_getr rfl v_tyM rfl ?_
        refine w_st rfl (fun _ => rfl) ?_
        show w_T L xs (d + 3) m_X12_laysLessons 124 [(6, .int (Int32.ofInt (h : Int))), (5, .int had), (3, .int due), (4, .int mo), (0, .ref 100), (1, .int g), (2, .int hb)] [.int (Int32.ofInt (h : Int)), .ref 133] S R Q
        refine w_iald rfl rfl (by rw [eh]; omega) (by rw [eh]; omega) ?_
        refine w_st rfl (fun _ => rfl) ?_
        refine w_st rfl (fun _ => rfl) ?_
        refine w_st rfl (fun _ => rfl) ?_
        refine w_st rfl (fun _ => rfl) ?_
        show w_T L xs (d + 3) m_X12_laysLessons 130 [(6, .int (Int32.ofInt (h : Int))), (5, .int had), (3, .int due), (4, .int mo), (0, .ref 100), (1, .int g), (2, .int hb)] [.int ((S 132 (Int32.ofInt (h : Int)).toInt.toNat) &&& (had ^^^ (Int32.ofInt (-1))))] S R Q
        refine w_br (P := ((S 132 (Int32.ofInt (h : Int)).toInt.toNat) &&& (had ^^^ (Int32.ofInt (-1)))) = 0) rfl (fun _ => rfl) (fun h130 => ?_) (fun h130 => ?_)
        · exact k h (by omega) (fun _ => hbit)
        · refine w_st rfl (fun _ => rfl) ?_
          refine w_st rfl (fun _ => rfl) ?_
          show w_T L xs (d + 3) m_X12_laysLessons 102 [(6, .int ((Int32.ofInt (h : Int)) + Int32.ofInt 1)), (5, .int had), (3, .int due), (4, .int mo), (0, .ref 100), (1, .int g), (2, .int hb)] [] S R Q
          rw [w_inc]
          exact ih (h + 1) (by omega)
noncomputable def v_clr (k h : Nat) : Bool := bif decide ((Int32.ofInt (k : Int) >>> (Int32.ofInt (h : Int) &&& 31)) &&& 1 = 1) then (q_ile 0 (Int32.ofInt (k : Int) &&& ((Int32.ofInt 1 <<< (Int32.ofInt (h : Int) &&& 31)) ^^^ Int32.ofInt (-1))).toInt && q_ile (Int32.ofInt (k : Int) &&& ((Int32.ofInt 1 <<< (Int32.ofInt (h : Int) &&& 31)) ^^^ Int32.ofInt (-1))).toInt 1023) && Nat.beq (v_popN 10 (Int32.ofInt (k : Int) &&& ((Int32.ofInt 1 <<< (Int32.ofInt (h : Int) &&& 31)) ^^^ Int32.ofInt (-1))).toInt.toNat + 1) (v_popN 10 k) else true
set_option maxRecDepth 100000 in
theorem v_clr_ok : ((List.range 1024).all (fun k => (List.range 10).all (fun h => v_clr k h))) = true := by decide +kernel
theorem w_clr {due : Int32} {h : Nat} (d1 : 0 ≤ due.toInt) (d2 : due.toInt ≤ 1023) (hh : h < 10) (hb : (due >>> (Int32.ofInt (h : Int) &&& 31)) &&& 1 = 1) : 0 ≤ (due &&& ((Int32.ofInt 1 <<< (Int32.ofInt (h : Int) &&& 31)) ^^^ Int32.ofInt (-1))).toInt ∧ (due &&& ((Int32.ofInt 1 <<< (Int32.ofInt (h : Int) &&& 31)) ^^^ Int32.ofInt (-1))).toInt ≤ 1023 ∧ v_popN 10 (due &&& ((Int32.ofInt 1 <<< (Int32.ofInt (h : Int) &&& 31)) ^^^ Int32.ofInt (-1))).toInt.toNat + 1 = v_popN 10 due.toInt.toNat := by
  have h1 := List.all_eq_true.mp v_clr_ok due.toInt.toNat (List.mem_range.mpr (by omega))
  have h2 := List.all_eq_true.mp h1 h (List.mem_range.mpr hh)
  have e : Int32.ofInt ((due.toInt.toNat : Nat) : Int) = due := by rw [show ((due.toInt.toNat : Nat) : Int) = due.toInt by omega, q_of]
  unfold v_clr at h2
  rw [e, decide_eq_true hb] at h2
  simp only [cond_true, Bool.and_eq_true, q_ile_ok, Nat.beq_eq] at h2
  exact ⟨h2.1.1, h2.1.2, h2.2⟩
set_option maxHeartbeats 2000000 in
theorem h_ll4 (R : v_Rf) (g hb mo : Int32) : ∀ (m : Nat) (S : v_Sf) (due had b : Int32) (k : Nat), v_popN 10 due.toInt.toNat = m → 0 ≤ due.toInt → due.toInt ≤ 1023 → S 99 107 = Int32.ofInt (k : Int) → k + m ≤ 10 → v_Tb v_ty S R → v_Op S → (∀ S' u, v_Tb v_ty S' R → v_Op S' → v_Fr [(99, 107, 107), (161, 0, 10)] S R S' R → (u = Int32.ofInt 0 ∨ u = Int32.ofInt 1) → Q (some (.int u)) S' R) → w_T L xs (d + 3) m_X12_laysLessons 95 [(5, .int had), (3, .int due), (6, .int b), (4, .int mo), (0, .ref 100), (1, .int g), (2, .int hb)] [] S R Q := by
  have e10 : (Int32.ofInt 10).toInt = 10 := by decide
  have f1 : v_frz 99 107 107 = false := by decide +kernel
  have f2 : ∀ j, v_frz 161 j j = false := fun j => rfl
  have c1 : v_md [(99, 107, 107), (161, 0, 10)] 99 107 107 = true := by decide +kernel
  have c2 : ∀ j, j ≤ 10 → v_md [(99, 107, 107), (161, 0, 10)] 161 j j = true := fun j hj => v_md_mono (lo := 0) (hi := 10) (by decide +kernel) (Nat.zero_le _) hj
  intro m
  induction m with
  | zero =>
    intro S due had b k hp d1 d2 hk hkm hT hO hq
    have hz : due = 0 := by
      apply q_inj
      show due.toInt = 0
      rcases Int.lt_or_eq_of_le d1 with h | h
      · have := v_popN_pos 10 due.toInt.toNat (by omega) (by omega)
        omega
      · omega
    refine w_st rfl (fun _ => rfl) ?_
    show w_T L xs (d + 3) m_X12_laysLessons 96 [(5, .int had), (3, .int due), (6, .int b), (4, .int mo), (0, .ref 100), (1, .int g), (2, .int hb)] [.int due] S R Q
    refine w_br (P := due = 0) rfl (fun _ => rfl) (fun h96 => ?_) (fun h96 => ?_)
    · refine w_st rfl (fun _ => rfl) ?_
      show w_T L xs (d + 3) m_X12_laysLessons 191 [(5, .int had), (3, .int due), (6, .int b), (4, .int mo), (0, .ref 100), (1, .int g), (2, .int hb)] [.int (Int32.ofInt 1)] S R Q
      refine w_ret rfl (by rfl) ?_
      exact hq S _ hT hO (v_Fr_rf _ _ _) (Or.inr rfl)
    · exact absurd hz h96
  | succ m ih =>
    intro S due had b k hp d1 d2 hk hkm hT hO hq
    refine w_st rfl (fun _ => rfl) ?_
    show w_T L xs (d + 3) m_X12_laysLessons 96 [(5, .int had), (3, .int due), (6, .int b), (4, .int mo), (0, .ref 100), (1, .int g), (2, .int hb)] [.int due] S R Q
    refine w_br (P := due = 0) rfl (fun _ => rfl) (fun h96 => ?_) (fun h96 => ?_)
    · refine w_st rfl (fun _ => rfl) ?_
      show w_T L xs (d + 3) m_X12_laysLessons 191 [(5, .int had), (3, .int due), (6, .int b), (4, .int mo), (0, .ref 100), (1, .int g), (2, .int hb)] [.int (Int32.ofInt 1)] S R Q
      refine w_ret rfl (by rfl) ?_
      exfalso
      have : v_popN 10 due.toInt.toNat = 0 := by rw [h96]; decide
      omega
    · refine w_st rfl (fun _ => rfl) ?_
      refine w_st rfl (fun _ => rfl) ?_
      show w_T L xs (d + 3) m_X12_laysLessons 102 [(6, .int (Int32.ofInt 0)), (5, .int had), (3, .int due), (4, .int mo), (0, .ref 100), (1, .int g), (2, .int hb)] [] S R Q
      refine h_ll3 S R g hb had due mo hT (fun q hq1 hq2 => ?_) 10 0 rfl
      have eq := w_nat (k := q) (by omega)
      have ek := w_nat (k := k) (by omega)
      have ekn : (Int32.ofInt (k : Int)).toInt.toNat = k := by rw [ek]; omega
      refine w_st rfl (fun _ => rfl) ?_
      refine w_st rfl (fun _ => rfl) ?_
      show w_T L xs (d + 3) m_X12_laysLessons 143 [(6, .int (Int32.ofInt (q : Int))), (5, .int had), (3, .int due), (4, .int mo), (0, .ref 100), (1, .int g), (2, .int hb)] [.int (Int32.ofInt 10), .int (Int32.ofInt (q : Int))] S R Q
      refine w_br (P := ¬ (Int32.ofInt (q : Int)) = (Int32.ofInt 10)) rfl (fun _ => rfl) (fun h143 => ?_) (fun h143 => ?_)
      · have hq10 : q < 10 := by
          rcases Nat.lt_or_eq_of_le hq1 with h | h
          · exact h
          · exact absurd (by rw [h]; rfl) h143
        refine w_st rfl (fun _ => rfl) ?_
        show w_T L xs (d + 3) m_X12_laysLessons 149 [(6, .int (Int32.ofInt (q : Int))), (5, .int had), (3, .int due), (4, .int mo), (0, .ref 100), (1, .int g), (2, .int hb)] [.ref 100] S R Q
        refine w_getr rfl v_tyM rfl ?_
        refine w_st rfl (fun _ => rfl) ?_
        show w_T L xs (d + 3) m_X12_laysLessons 153 [(6, .int (Int32.ofInt (q : Int))), (5, .int had), (3, .int due), (4, .int mo), (0, .ref 100), (1, .int g), (2, .int hb)] [.ref 100, .ref 162] S R Q
        refine w_get rfl v_tyM rfl ?_
        rw [hk]
        refine w_st rfl (fun _ => rfl) ?_
        show w_T L xs (d + 3) m_X12_laysLessons 158 [(6, .int (Int32.ofInt (q : Int))), (5, .int had), (3, .int due), (4, .int mo), (0, .ref 100), (1, .int g), (2, .int hb)] [.int (Int32.ofInt (q : Int)), .int (Int32.ofInt (k : Int)), .ref 162] S R Q
        refine w_iast rfl rfl (by rw [ek]; omega) (by rw [ek]; omega) ?_
        refine w_st rfl (fun _ => rfl) ?_
        refine w_st rfl (fun _ => rfl) ?_
        show w_T L xs (d + 3) m_X12_laysLessons 161 [(6, .int (Int32.ofInt (q : Int))), (5, .int had), (3, .int due), (4, .int mo), (0, .ref 100), (1, .int g), (2, .int hb)] [.ref 100, .ref 100] (v_ur S 161 (upd (S 161) (Int32.ofInt (k : Int)).toInt.toNat (Int32.ofInt (q : Int)))) R Q
        refine w_get rfl v_tyM rfl ?_
        rw [w_urn (fun e => absurd e.1 (by decide)), hk]
        refine w_st rfl (fun _ => rfl) ?_
        refine w_st rfl (fun _ => rfl) ?_
        show w_T L xs (d + 3) m_X12_laysLessons 166 [(6, .int (Int32.ofInt (q : Int))), (5, .int had), (3, .int due), (4, .int mo), (0, .ref 100), (1, .int g), (2, .int hb)] [.int ((Int32.ofInt (k : Int)) + (Int32.ofInt 1)), .ref 100] (v_ur S 161 (upd (S 161) (Int32.ofInt (k : Int)).toInt.toNat (Int32.ofInt (q : Int)))) R Q
        refine w_put rfl v_tyM rfl rfl rfl ?_
        refine w_st rfl (fun _ => rfl) ?_
        refine w_st rfl (fun _ => rfl) ?_
        refine w_st rfl (fun _ => rfl) ?_
        refine w_st rfl (fun _ => rfl) ?_
        refine w_st rfl (fun _ => rfl) ?_
        refine w_st rfl (fun _ => rfl) ?_
        refine w_st rfl (fun _ => rfl) ?_
        refine w_st rfl (fun _ => rfl) ?_
        refine w_st rfl (fun _ => rfl) ?_
        refine w_st rfl (fun _ => rfl) ?_
        refine w_st rfl (fun _ => rfl) ?_
        refine w_st rfl (fun _ => rfl) ?_
        refine w_st rfl (fun _ => rfl) ?_
        refine w_st rfl (fun _ => rfl) ?_
        refine w_st rfl (fun _ => rfl) ?_
        show w_T L xs (d + 3) m_X12_laysLessons 95 [(3, .int (due &&& (((Int32.ofInt 1) <<< ((Int32.ofInt (q : Int)) &&& 31)) ^^^ (Int32.ofInt (-1))))), (5, .int (had ||| ((Int32.ofInt 1) <<< ((Int32.ofInt (q : Int)) &&& 31)))), (6, .int (Int32.ofInt (q : Int))), (4, .int mo), (0, .ref 100), (1, .int g), (2, .int hb)] [] (v_ur (v_ur S 161 (upd (S 161) (Int32.ofInt (k : Int)).toInt.toNat (Int32.ofInt (q : Int)))) 99 (upd ((v_ur S 161 (upd (S 161) (Int32.ofInt (k : Int)).toInt.toNat (Int32.ofInt (q : Int)))) 99) 107 ((Int32.ofInt (k : Int)) + (Int32.ofInt 1)))) R Q
        refine w_lc (b := [(5, .int (had ||| ((Int32.ofInt 1) <<< ((Int32.ofInt (q : Int)) &&& 31)))), (3, .int (due &&& (((Int32.ofInt 1) <<< ((Int32.ofInt (q : Int)) &&& 31)) ^^^ (Int32.ofInt (-1))))), (6, .int (Int32.ofInt (q : Int))), (4, .int mo), (0, .ref 100), (1, .int g), (2, .int hb)]) (show ([3, 5, 6, 4, 0, 1, 2] : List Nat).Nodup by decide) (show ([5, 3, 6, 4, 0, 1, 2] : List Nat).Nodup by decide) (fun i => match i with | 0 => rfl | 1 => rfl | 2 => rfl | 3 => rfl | 4 => rfl | 5 => rfl | 6 => rfl | _ + 7 => rfl) ?_
        have hc := w_clr d1 d2 hq10 (hq2 hq10)
        refine ih _ _ _ _ (k + 1) (by omega) hc.1 hc.2.1 (by rw [w_urs, w_inc]) (by omega) (w_TbF (w_TbR hT (a := 161) rfl (by rw [eq]; omega) (by rw [eq]; show _ ≤ (9 : Int); omega)) v_tyM rfl (by rw [w_inc, w_nat (by omega)]; show (0 : Int) ≤ _; omega) (by rw [w_inc, w_nat (by omega)]; show _ ≤ (10 : Int); omega)) (w_Op_ur f1 (w_Op_ur (f2 _) hO)) (fun S' u k1 k2 k3 k4 => hq S' u k1 k2 (v_Fr_tr (v_Fr_tr (v_Fr_ur _ _ _ (c2 _ (by rw [ekn]; omega))) (v_Fr_ur _ _ _ c1)) k3) k4)
      · refine w_st rfl (fun _ => rfl) ?_
        show w_T L xs (d + 3) m_X12_laysLessons 147 [(6, .int (Int32.ofInt (q : Int))), (5, .int had), (3, .int due), (4, .int mo), (0, .ref 100), (1, .int g), (2, .int hb)] [.int (Int32.ofInt 0)] S R Q
        refine w_ret rfl (by rfl) ?_
        exact hq S _ hT hO (v_Fr_rf _ _ _) (Or.inl rfl)
theorem hr_X12_laysLessons {L : Nat} {xs : Nat → Int32} (ih : ∀ x, ∀ w ∈ v_rw x, w.1 < rw_238.1 → v_Met L xs v_ty v_Op x w) : v_Met L xs v_ty v_Op 270 rw_238 := by
  intro M hM ac S R ha hT hO
  rw [mt_X12_laysLessons] at hM
  cases hM
  match ac, ha with
  | [r0, w1, w2], ⟨h0, ⟨g, hg, g1, g2⟩, ⟨hb, hhb, b1, b2⟩, _⟩ =>
  have h0 : r0 = .ref 100 := h0
  subst h0 hg hhb
  have g1 : 0 ≤ g.toInt := g1
  have g2 : g.toInt ≤ 11 := g2
  have b1 : 0 ≤ hb.toInt := b1
  have b2 : hb.toInt ≤ 1023 := b2
  show w_T L xs 3 m_X12_laysLessons 0 (lv_args 0 [.ref 100, .int g, .int hb]) [] S R (fun r S' R' => v_Tb v_ty S' R' ∧ v_Op S' ∧ v_rk1 (some (0, 1)) r ∧ v_Fr [(99, 107, 107), (161, 0, 10)] S R S' R')
  generalize hQ : (fun (r : Option Value) (S' : v_Sf) (R' : v_Rf) => v_Tb v_ty S' R' ∧ v_Op S' ∧ v_rk1 (some (0, 1)) r ∧ v_Fr [(99, 107, 107), (161, 0, 10)] S R S' R') = Q
  have c1 : v_md [(99, 107, 107), (161, 0, 10)] 99 107 107 = true := by decide +kernel
  have f1 : v_frz 99 107 107 = false := by decide +kernel
  have hd := w_andl (x := hb) (y := S 122 g.toInt.toNat ^^^ Int32.ofInt (-1)) b1
  refine w_st rfl (fun _ => rfl) ?_
  refine w_st rfl (fun _ => rfl) ?_
  show w_T L xs 3 m_X12_laysLessons 2 [(0, .ref 100), (1, .int g), (2, .int hb)] [.ref 100, .int hb] S R Q
  refine w_getr rfl v_tyM rfl ?_
  refine w_st rfl (fun _ => rfl) ?_
  show w_T L xs 3 m_X12_laysLessons 6 [(0, .ref 100), (1, .int g), (2, .int hb)] [.int g, .ref 123, .int hb] S R Q
  refine w_iald rfl rfl (by omega) (by omega) ?_
  refine w_st rfl (fun _ => rfl) ?_
  refine w_st rfl (fun _ => rfl) ?_
  refine w_st rfl (fun _ => rfl) ?_
  refine w_st rfl (fun _ => rfl) ?_
  refine w_st rfl (fun _ => rfl) ?_
  refine w_st rfl (fun _ => rfl) ?_
  refine w_st rfl (fun _ => rfl) ?_
  show w_T L xs 3 m_X12_laysLessons 16 [(4, .int (Int32.ofInt 1)), (3, .int (hb &&& ((S 122 g.toInt.toNat) ^^^ (Int32.ofInt (-1))))), (0, .ref 100), (1, .int g), (2, .int hb)] [.int (Int32.ofInt 1)] S R Q
  refine w_st rfl (fun _ => rfl) ?_
  refine w_st rfl (fun _ => rfl) ?_
  refine w_st rfl (fun _ => rfl) ?_
  refine w_st rfl (fun _ => rfl) ?_
  refine w_st rfl (fun _ => rfl) ?_
  show w_T L xs 3 m_X12_laysLessons 25 [(6, .int (Int32.ofInt 0)), (5, .int (hb &&& ((S 122 g.toInt.toNat) ^^^ (Int32.ofInt (-1))))), (4, .int (Int32.ofInt 1)), (3, .int (hb &&& ((S 122 g.toInt.toNat) ^^^ (Int32.ofInt (-1))))), (0, .ref 100), (1, .int g), (2, .int hb)] [] S R Q
  refine w_lc (b := [(6, .int (Int32.ofInt 0)), (3, .int (hb &&& ((S 122 g.toInt.toNat) ^^^ (Int32.ofInt (-1))))), (5, .int (hb &&& ((S 122 g.toInt.toNat) ^^^ (Int32.ofInt (-1))))), (4, .int (Int32.ofInt 1)), (0, .ref 100), (1, .int g), (2, .int hb)]) (show ([6, 5, 4, 3, 0, 1, 2] : List Nat).Nodup by decide) (show ([6, 3, 5, 4, 0, 1, 2] : List Nat).Nodup by decide) (fun i => match i with | 0 => rfl | 1 => rfl | 2 => rfl | 3 => rfl | 4 => rfl | 5 => rfl | 6 => rfl | _ + 7 => rfl) ?_
  refine h_ll1 (d := 0) S R g hb _ _ g1 g2 hT 10 0 _ rfl hd.1 (by omega) (Int.le_refl _) (fun due' k1 k2 k3 => ?_)
  refine w_st rfl (fun _ => rfl) ?_
  refine w_st rfl (fun _ => rfl) ?_
  show w_T L xs 3 m_X12_laysLessons 69 [(6, .int (Int32.ofInt 10)), (3, .int (due')), (5, .int (hb &&& (S 122 g.toInt.toNat ^^^ Int32.ofInt (-1)))), (4, .int (Int32.ofInt 1)), (0, .ref 100), (1, .int g), (2, .int hb)] [.int (hb &&& (S 122 g.toInt.toNat ^^^ Int32.ofInt (-1))), .int (due')] S R Q
  refine w_br (P := (due') = (hb &&& (S 122 g.toInt.toNat ^^^ Int32.ofInt (-1)))) rfl (fun _ => rfl) (fun h69 => ?_) (fun h69 => ?_)
  · refine w_st rfl (fun _ => rfl) ?_
    refine w_st rfl (fun _ => rfl) ?_
    refine w_st rfl (fun _ => rfl) ?_
    show w_T L xs 3 m_X12_laysLessons 14 [(4, .int (Int32.ofInt 0)), (6, .int (Int32.ofInt 10)), (3, .int (due')), (5, .int (hb &&& (S 122 g.toInt.toNat ^^^ Int32.ofInt (-1)))), (0, .ref 100), (1, .int g), (2, .int hb)] [] S R Q
    refine w_lc (b := [(4, .int (Int32.ofInt 0)), (3, .int (due')), (5, .int (hb &&& (S 122 g.toInt.toNat ^^^ Int32.ofInt (-1)))), (6, .int (Int32.ofInt 10)), (0, .ref 100), (1, .int g), (2, .int hb)]) (show ([4, 6, 3, 5, 0, 1, 2] : List Nat).Nodup by decide) (show ([4, 3, 5, 6, 0, 1, 2] : List Nat).Nodup by decide) (fun i => match i with | 0 => rfl | 1 => rfl | 2 => rfl | 3 => rfl | 4 => rfl | 5 => rfl | 6 => rfl | _ + 7 => rfl) ?_
    refine h_ll2 (d := 0) S R g hb g1 g2 hT 3000 due' _ _ _ (Or.inl ⟨rfl, by omega⟩) k1 k2 (fun due2 a2 b2' m1 m2 => ?_)
    refine w_st rfl (fun _ => rfl) ?_
    refine w_st rfl (fun _ => rfl) ?_
    show w_T L xs 3 m_X12_laysLessons 84 [(4, .int (Int32.ofInt 0)), (3, .int due2), (5, .int a2), (6, .int (b2')), (0, .ref 100), (1, .int g), (2, .int hb)] [.int (Int32.ofInt 0), .ref 100] S R Q
    refine w_put rfl v_tyM rfl rfl rfl ?_
    refine w_st rfl (fun _ => rfl) ?_
    show w_T L xs 3 m_X12_laysLessons 88 [(4, .int (Int32.ofInt 0)), (3, .int due2), (5, .int a2), (6, .int (b2')), (0, .ref 100), (1, .int g), (2, .int hb)] [.ref 100] (v_ur S 99 (upd (S 99) 107 (Int32.ofInt 0))) R Q
    refine w_getr rfl v_tyM rfl ?_
    refine w_st rfl (fun _ => rfl) ?_
    show w_T L xs 3 m_X12_laysLessons 92 [(4, .int (Int32.ofInt 0)), (3, .int due2), (5, .int a2), (6, .int (b2')), (0, .ref 100), (1, .int g), (2, .int hb)] [.int g, .ref 123] (v_ur S 99 (upd (S 99) 107 (Int32.ofInt 0))) R Q
    refine w_iald rfl rfl (by omega) (by omega) ?_
    refine w_st rfl (fun _ => rfl) ?_
    show w_T L xs 3 m_X12_laysLessons 95 [(5, .int ((v_ur S 99 (upd (S 99) 107 (Int32.ofInt 0))) 122 g.toInt.toNat)), (4, .int (Int32.ofInt 0)), (3, .int due2), (6, .int (b2')), (0, .ref 100), (1, .int g), (2, .int hb)] [] (v_ur S 99 (upd (S 99) 107 (Int32.ofInt 0))) R Q
    refine w_lc (b := [(5, .int ((v_ur S 99 (upd (S 99) 107 (Int32.ofInt 0))) 122 g.toInt.toNat)), (3, .int due2), (6, .int (b2')), (4, .int (Int32.ofInt 0)), (0, .ref 100), (1, .int g), (2, .int hb)]) (show ([5, 4, 3, 6, 0, 1, 2] : List Nat).Nodup by decide) (show ([5, 3, 6, 4, 0, 1, 2] : List Nat).Nodup by decide) (fun i => match i with | 0 => rfl | 1 => rfl | 2 => rfl | 3 => rfl | 4 => rfl | 5 => rfl | 6 => rfl | _ + 7 => rfl) ?_
    refine h_ll4 (d := 0) R g hb _ _ _ due2 _ _ 0 rfl m1 m2 (by rw [w_urs]; rfl) (by have := v_popN_f 10 due2.toInt.toNat; omega) (w_TbF hT v_tyM rfl (by decide) (by decide)) (w_Op_ur f1 hO) (fun S' u k1 k2 k3 k4 => ?_)
    rw [← hQ]
    refine ⟨k1, k2, ?_, v_Fr_tr (v_Fr_ur _ _ _ c1) k3⟩
    rcases k4 with rfl | rfl
    · exact ⟨_, rfl, by decide, by decide⟩
    · exact ⟨_, rfl, by decide, by decide⟩
  · refine w_st rfl (fun _ => rfl) ?_
    refine w_st rfl (fun _ => rfl) ?_
    refine w_st rfl (fun _ => rfl) ?_
    refine w_st rfl (fun _ => rfl) ?_
    show w_T L xs 3 m_X12_laysLessons 14 [(4, .int (Int32.ofInt 1)), (6, .int (Int32.ofInt 10)), (3, .int (due')), (5, .int (hb &&& (S 122 g.toInt.toNat ^^^ Int32.ofInt (-1)))), (0, .ref 100), (1, .int g), (2, .int hb)] [] S R Q
    refine w_lc (b := [(4, .int (Int32.ofInt 1)), (3, .int (due')), (5, .int (hb &&& (S 122 g.toInt.toNat ^^^ Int32.ofInt (-1)))), (6, .int (Int32.ofInt 10)), (0, .ref 100), (1, .int g), (2, .int hb)]) (show ([4, 6, 3, 5, 0, 1, 2] : List Nat).Nodup by decide) (show ([4, 3, 5, 6, 0, 1, 2] : List Nat).Nodup by decide) (fun i => match i with | 0 => rfl | 1 => rfl | 2 => rfl | 3 => rfl | 4 => rfl | 5 => rfl | 6 => rfl | _ + 7 => rfl) ?_
    refine h_ll2 (d := 0) S R g hb g1 g2 hT 3000 due' _ _ _ (Or.inr ⟨rfl, by omega⟩) k1 k2 (fun due2 a2 b2' m1 m2 => ?_)
    refine w_st rfl (fun _ => rfl) ?_
    refine w_st rfl (fun _ => rfl) ?_
    show w_T L xs 3 m_X12_laysLessons 84 [(4, .int (Int32.ofInt 0)), (3, .int due2), (5, .int a2), (6, .int (b2')), (0, .ref 100), (1, .int g), (2, .int hb)] [.int (Int32.ofInt 0), .ref 100] S R Q
    refine w_put rfl v_tyM rfl rfl rfl ?_
    refine w_st rfl (fun _ => rfl) ?_
    show w_T L xs 3 m_X12_laysLessons 88 [(4, .int (Int32.ofInt 0)), (3, .int due2), (5, .int a2), (6, .int (b2')), (0, .ref 100), (1, .int g), (2, .int hb)] [.ref 100] (v_ur S 99 (upd (S 99) 107 (Int32.ofInt 0))) R Q
    refine w_getr rfl v_tyM rfl ?_
    refine w_st rfl (fun _ => rfl) ?_
    show w_T L xs 3 m_X12_laysLessons 92 [(4, .int (Int32.ofInt 0)), (3, .int due2), (5, .int a2), (6, .int (b2')), (0, .ref 100), (1, .int g), (2, .int hb)] [.int g, .ref 123] (v_ur S 99 (upd (S 99) 107 (Int32.ofInt 0))) R Q
    refine w_iald rfl rfl (by omega) (by omega) ?_
    refine w_st rfl (fun _ => rfl) ?_
    show w_T L xs 3 m_X12_laysLessons 95 [(5, .int ((v_ur S 99 (upd (S 99) 107 (Int32.ofInt 0))) 122 g.toInt.toNat)), (4, .int (Int32.ofInt 0)), (3, .int due2), (6, .int (b2')), (0, .ref 100), (1, .int g), (2, .int hb)] [] (v_ur S 99 (upd (S 99) 107 (Int32.ofInt 0))) R Q
    refine w_lc (b := [(5, .int ((v_ur S 99 (upd (S 99) 107 (Int32.ofInt 0))) 122 g.toInt.toNat)), (3, .int due2), (6, .int (b2')), (4, .int (Int32.ofInt 0)), (0, .ref 100), (1, .int g), (2, .int hb)]) (show ([5, 4, 3, 6, 0, 1, 2] : List Nat).Nodup by decide) (show ([5, 3, 6, 4, 0, 1, 2] : List Nat).Nodup by decide) (fun i => match i with | 0 => rfl | 1 => rfl | 2 => rfl | 3 => rfl | 4 => rfl | 5 => rfl | 6 => rfl | _ + 7 => rfl) ?_
    refine h_ll4 (d := 0) R g hb _ _ _ due2 _ _ 0 rfl m1 m2 (by rw [w_urs]; rfl) (by have := v_popN_f 10 due2.toInt.toNat; omega) (w_TbF hT v_tyM rfl (by decide) (by decide)) (w_Op_ur f1 hO) (fun S' u k1 k2 k3 k4 => ?_)
    rw [← hQ]
    refine ⟨k1, k2, ?_, v_Fr_tr (v_Fr_ur _ _ _ c1) k3⟩
    rcases k4 with rfl | rfl
    · exact ⟨_, rfl, by decide, by decide⟩
    · exact ⟨_, rfl, by decide, by decide⟩
end LL
end Prt37
section Prt38
/-! laysPlaces -/
noncomputable abbrev m_X12_laysPlaces : g_M := (g_cn 12, yX12_laysPlaces, cX12_laysPlaces, 6, none, g_look2 ttX12_laysPlaces)
set_option maxRecDepth 20000 in
theorem mt_X12_laysPlaces : g_mt 277 = some m_X12_laysPlaces := rfl
noncomputable abbrev m_X12_asksNext : g_M := (g_cn 12, yX12_asksNext, cX12_asksNext, 4, (some .int), g_look2 ttX12_asksNext)
set_option maxRecDepth 20000 in
theorem mt_X12_asksNext : g_mt 275 = some m_X12_asksNext := rfl
noncomputable abbrev m_X12_isAnywhere : g_M := (g_cn 12, yX12_isAnywhere, cX12_isAnywhere, 3, (some .boolean), g_look2 ttX12_isAnywhere)
set_option maxRecDepth 20000 in
theorem mt_X12_isAnywhere : g_mt 276 = some m_X12_isAnywhere := rfl
noncomputable abbrev m_X12_isLiked : g_M := (g_cn 12, yX12_isLiked, cX12_isLiked, 6, (some .boolean), g_look2 ttX12_isLiked)
set_option maxRecDepth 20000 in
theorem mt_X12_isLiked : g_mt 274 = some m_X12_isLiked := rfl
noncomputable abbrev m_X12_isHigher : g_M := (g_cn 12, yX12_isHigher, cX12_isHigher, 3, (some .boolean), g_look2 ttX12_isHigher)
set_option maxRecDepth 20000 in
theorem mt_X12_isHigher : g_mt 273 = some m_X12_isHigher := rfl
theorem v_Fr_nil {S S1 : v_Sf} {R R1 : v_Rf} (h : v_Fr [] S R S1 R1) : S = S1 ∧ R = R1 := ⟨funext (fun a => funext (fun j => (h a j rfl).1.symm)), funext (fun a => funext (fun j => (h a j rfl).2.symm))⟩
section LP
variable {L : Nat} {xs : Nat → Int32} {d : Nat} {Q : Option Value → v_Sf → v_Rf → Prop}
theorem h_asks1 (hH : v_Met L xs v_ty v_Op 273 rw_241) (S : v_Sf) (R : v_Rf) (g : Int32) (g1 : 0 ≤ g.toInt) (g2 : g.toInt ≤ 11) (hT : v_Tb v_ty S R) (hO : v_Op S) (hq : ∀ b, (b = Int32.ofInt (-1) ∨ 0 ≤ b.toInt ∧ b.toInt ≤ 4 ∧ ¬ (S 166 g.toInt.toNat >>> (b &&& 31)) &&& 1 = 1) → Q (some (.int b)) S R) : ∀ (m k : Nat) (b : Int32), k + m = 5 → (b = Int32.ofInt (-1) ∨ 0 ≤ b.toInt ∧ b.toInt ≤ 4 ∧ ¬ (S 166 g.toInt.toNat >>> (b &&& 31)) &&& 1 = 1) → w_T L xs (d + 2) m_X12_asksNext 4 [(3, .int (Int32.ofInt (k : Int))), (2, .int b), (0, .ref 100), (1, .int g)] [] S R Q := by
  have e5 : (Int32.ofInt 5).toInt = 5 := by decide
  intro m
  induction m with
  | zero =>
    intro k b hk hb
    obtain rfl : k = 5 := by omega
    refine w_st rfl (fun _ => rfl) ?_
    refine w_st rfl (fun _ => rfl) ?_
    show w_T L xs (d + 2) m_X12_asksNext 6 [(3, .int (Int32.ofInt ((5 : Nat) : Int))), (2, .int b), (0, .ref 100), (1, .int g)] [.int (Int32.ofInt 5), .int (Int32.ofInt ((5 : Nat) : Int))] S R Q
    refine w_st rfl (fun _ => rfl) ?_
    refine w_st rfl (fun _ => rfl) ?_
    show w_T L xs (d + 2) m_X12_asksNext 49 [(3, .int (Int32.ofInt ((5 : Nat) : Int))), (2, .int b), (0, .ref 100), (1, .int g)] [.int b] S R Q
    refine w_ret rfl rfl ?_
    exact hq b hb
  | succ m ih =>
    intro k b hk hb
    have ek := w_nat (k := k) (by omega)
    have b9 : -1 ≤ b.toInt ∧ b.toInt ≤ 4 := by
      rcases hb with h | h
      · rw [h]; decide
      · omega
    refine w_st rfl (fun _ => rfl) ?_
    refine w_st rfl (fun _ => rfl) ?_
    show w_T L xs (d + 2) m_X12_asksNext 6 [(3, .int (Int32.ofInt (k : Int))), (2, .int b), (0, .ref 100), (1, .int g)] [.int (Int32.ofInt 5), .int (Int32.ofInt (k : Int))] S R Q
    refine w_br (P := (Int32.ofInt 5) ≤ (Int32.ofInt (k : Int))) rfl (fun _ => rfl) (fun h6 => ?_) (fun h6 => ?_)
    · exfalso; rw [q_le32, e5, ek] at h6; omega
    · refine w_st rfl (fun _ => rfl) ?_
      show w_T L xs (d + 2) m_X12_asksNext 10 [(3, .int (Int32.ofInt (k : Int))), (2, .int b), (0, .ref 100), (1, .int g)] [.ref 100] S R Q
      refine w_getr rfl v_tyM rfl ?_
      refine w_st rfl (fun _ => rfl) ?_
      show w_T L xs (d + 2) m_X12_asksNext 14 [(3, .int (Int32.ofInt (k : Int))), (2, .int b), (0, .ref 100), (1, .int g)] [.int (Int32.ofInt (k : Int)), .ref 163] S R Q
      refine w_bald rfl rfl (by decide) (by rw [ek]; omega) (by rw [ek]; omega) ?_
      show w_T L xs (d + 2) m_X12_asksNext 15 [(3, .int (Int32.ofInt (k : Int))), (2, .int b), (0, .ref 100), (1, .int g)] [.int (S 162 (Int32.ofInt (k : Int)).toInt.toNat)] S R Q
      refine w_br (P := (S 162 (Int32.ofInt (k : Int)).toInt.toNat) = 0) rfl (fun _ => rfl) (fun h15 => ?_) (fun h15 => ?_)
      · refine w_st rfl (fun _ => rfl) ?_
        refine w_st rfl (fun _ => rfl) ?_
        show w_T L xs (d + 2) m_X12_asksNext 4 [(3, .int ((Int32.ofInt (k : Int)) + Int32.ofInt 1)), (2, .int b), (0, .ref 100), (1, .int g)] [] S R Q
        rw [w_inc]
        exact ih (k + 1) b (by omega) hb
      · refine w_st rfl (fun _ => rfl) ?_
        show w_T L xs (d + 2) m_X12_asksNext 19 [(3, .int (Int32.ofInt (k : Int))), (2, .int b), (0, .ref 100), (1, .int g)] [.ref 100] S R Q
        refine w_getr rfl v_tyM rfl ?_
        refine w_st rfl (fun _ => rfl) ?_
        show w_T L xs (d + 2) m_X12_asksNext 23 [(3, .int (Int32.ofInt (k : Int))), (2, .int b), (0, .ref 100), (1, .int g)] [.int g, .ref 167] S R Q
        refine w_iald rfl rfl (by omega) (by omega) ?_
        refine w_st rfl (fun _ => rfl) ?_
        show w_T L xs (d + 2) m_X12_asksNext 25 [(3, .int (Int32.ofInt (k : Int))), (2, .int b), (0, .ref 100), (1, .int g)] [.int (Int32.ofInt (k : Int)), .int (S 166 g.toInt.toNat)] S R Q
        refine w_cs rfl (by decide) mt_X12_has (fun _ => rfl) (Nat.le_of_ble_eq_true rfl) (Nat.le_of_ble_eq_true rfl) ?_
        show w_T L xs _ m_X12_has 0 (lv_args 0 [.int (S 166 g.toInt.toNat), .int (Int32.ofInt (k : Int))]) [] S R _
        refine h_has _ _ ?_
        show w_T L xs (d + 2) m_X12_asksNext 28 [(3, .int (Int32.ofInt (k : Int))), (2, .int b), (0, .ref 100), (1, .int g)] [.int (if ((S 166 g.toInt.toNat) >>> ((Int32.ofInt (k : Int)) &&& 31)) &&& 1 = 1 then (1 : Int32) else 0)] S R Q
        refine w_br (P := ¬ (if ((S 166 g.toInt.toNat) >>> ((Int32.ofInt (k : Int)) &&& 31)) &&& 1 = 1 then (1 : Int32) else 0) = 0) rfl (fun _ => rfl) (fun h28 => ?_) (fun h28 => ?_)
        · refine w_st rfl (fun _ => rfl) ?_
          refine w_st rfl (fun _ => rfl) ?_
          show w_T L xs (d + 2) m_X12_asksNext 4 [(3, .int ((Int32.ofInt (k : Int)) + Int32.ofInt 1)), (2, .int b), (0, .ref 100), (1, .int g)] [] S R Q
          rw [w_inc]
          exact ih (k + 1) b (by omega) hb
        · have hbit : ¬ (S 166 g.toInt.toNat >>> (Int32.ofInt (k : Int) &&& 31)) &&& 1 = 1 := fun hh => h28 (by rw [if_pos hh]; decide)
          refine w_st rfl (fun _ => rfl) ?_
          refine w_st rfl (fun _ => rfl) ?_
          refine w_st rfl (fun _ => rfl) ?_
          show w_T L xs (d + 2) m_X12_asksNext 34 [(3, .int (Int32.ofInt (k : Int))), (2, .int b), (0, .ref 100), (1, .int g)] [.int b, .int (Int32.ofInt (k : Int)), .ref 100] S R Q
          refine w_cv rfl (by decide) mt_X12_isHigher v_tyM rfl rfl rfl (Nat.le_of_ble_eq_true rfl) (Nat.le_of_ble_eq_true rfl) (Nat.le_of_ble_eq_true rfl) ?_
          show w_T L xs _ m_X12_isHigher 0 (lv_args 0 [.ref 100, .int (Int32.ofInt (k : Int)), .int b]) [] S R _
          refine w_met hH (Nat.zero_le _) mt_X12_isHigher ⟨rfl, ⟨_, rfl, by rw [ek]; show (0 : Int) ≤ _; omega, by rw [ek]; show _ ≤ (4 : Int); omega⟩, ⟨_, rfl, b9.1, b9.2⟩, trivial⟩ hT hO (fun r S1 R1 hT1 hO1 hr hF => ?_)
          obtain ⟨u, hr, -, -⟩ := hr
          subst hr
          obtain ⟨rfl, rfl⟩ := v_Fr_nil hF
          show w_T L xs (d + 2) m_X12_asksNext 37 [(3, .int (Int32.ofInt (k : Int))), (2, .int b), (0, .ref 100), (1, .int g)] [.int u] S R Q
          refine w_br (P := u = 0) rfl (fun _ => rfl) (fun h37 => ?_) (fun h37 => ?_)
          · refine w_st rfl (fun _ => rfl) ?_
            refine w_st rfl (fun _ => rfl) ?_
            show w_T L xs (d + 2) m_X12_asksNext 4 [(3, .int ((Int32.ofInt (k : Int)) + Int32.ofInt 1)), (2, .int b), (0, .ref 100), (1, .int g)] [] S R Q
            rw [w_inc]
            exact ih (k + 1) b (by omega) hb
          · refine w_st rfl (fun _ => rfl) ?_
            refine w_st rfl (fun _ => rfl) ?_
            refine w_st rfl (fun _ => rfl) ?_
            refine w_st rfl (fun _ => rfl) ?_
            show w_T L xs (d + 2) m_X12_asksNext 4 [(3, .int ((Int32.ofInt (k : Int)) + Int32.ofInt 1)), (2, .int (Int32.ofInt (k : Int))), (0, .ref 100), (1, .int g)] [] S R Q
            rw [w_inc]
            exact ih (k + 1) _ (by omega) (Or.inr ⟨by rw [ek]; omega, by rw [ek]; omega, hbit⟩)
theorem h_asks (hH : v_Met L xs v_ty v_Op 273 rw_241) (S : v_Sf) (R : v_Rf) (g : Int32) (g1 : 0 ≤ g.toInt) (g2 : g.toInt ≤ 11) (hT : v_Tb v_ty S R) (hO : v_Op S) (hq : ∀ b, (b = Int32.ofInt (-1) ∨ 0 ≤ b.toInt ∧ b.toInt ≤ 4 ∧ ¬ (S 166 g.toInt.toNat >>> (b &&& 31)) &&& 1 = 1) → Q (some (.int b)) S R) : w_T L xs (d + 2) m_X12_asksNext 0 (lv_args 0 [.ref 100, .int g]) [] S R Q := by
  refine w_st rfl (fun _ => rfl) ?_
  refine w_st rfl (fun _ => rfl) ?_
  refine w_st rfl (fun _ => rfl) ?_
  refine w_st rfl (fun _ => rfl) ?_
  show w_T L xs (d + 2) m_X12_asksNext 4 [(3, .int (Int32.ofInt 0)), (2, .int (Int32.ofInt (-1))), (0, .ref 100), (1, .int g)] [] S R Q
  exact h_asks1 hH S R g g1 g2 hT hO hq 5 0 _ rfl (Or.inl rfl)
noncomputable def v_mu : Nat → (Nat → Int32) → Nat
  | 0, _ => 0
  | c + 1, f => v_mu c f + (31 - (f c).toInt).toNat
theorem v_mu_ge {f : Nat → Int32} {j : Nat} {v : Int32} : ∀ {c : Nat}, c ≤ j → v_mu c (upd f j v) = v_mu c f
  | 0, _ => rfl
  | c + 1, h => by
    show v_mu c (upd f j v) + _ = v_mu c f + _
    rw [v_mu_ge (by omega)]
    have : upd f j v c = f c := by rw [upd, if_neg (by omega)]
    rw [this]
theorem v_mu_lt {f : Nat → Int32} {j : Nat} {v : Int32} (h1 : (f j).toInt < v.toInt) (h2 : v.toInt ≤ 31) : ∀ {c : Nat}, j < c → v_mu c (upd f j v) < v_mu c f
  | 0, h => by omega
  | c + 1, h => by
    show v_mu c (upd f j v) + (31 - (upd f j v c).toInt).toNat < v_mu c f + (31 - (f c).toInt).toNat
    by_cases hj : j = c
    · subst hj
      rw [v_mu_ge (Nat.le_refl _)]
      have : upd f j v j = v := by rw [upd, if_pos rfl]
      rw [this]
      omega
    · have := v_mu_lt (f := f) (j := j) (v := v) h1 h2 (c := c) (by omega)
      have e : upd f j v c = f c := by rw [upd, if_neg (fun e => hj e.symm)]
      rw [e]
      omega
noncomputable def v_orc (x k : Nat) : Bool := bif decide ((Int32.ofInt (x : Int) >>> (Int32.ofInt (k : Int) &&& 31)) &&& 1 = 1) then true else q_ilt (x : Int) (Int32.ofInt (x : Int) ||| (Int32.ofInt 1 <<< (Int32.ofInt (k : Int) &&& 31))).toInt && q_ile (Int32.ofInt (x : Int) ||| (Int32.ofInt 1 <<< (Int32.ofInt (k : Int) &&& 31))).toInt 31
theorem v_orc_ok : ((List.range 32).all (fun x => (List.range 5).all (fun k => v_orc x k))) = true := by decide +kernel
theorem w_orc {x b : Int32} (h1 : 0 ≤ x.toInt) (h2 : x.toInt ≤ 31) (h3 : 0 ≤ b.toInt) (h4 : b.toInt ≤ 4) (hb : ¬ (x >>> (b &&& 31)) &&& 1 = 1) : x.toInt < (x ||| (Int32.ofInt 1 <<< (b &&& 31))).toInt ∧ (x ||| (Int32.ofInt 1 <<< (b &&& 31))).toInt ≤ 31 := by
  have k1 := List.all_eq_true.mp v_orc_ok x.toInt.toNat (List.mem_range.mpr (by omega))
  have k2 := List.all_eq_true.mp k1 b.toInt.toNat (List.mem_range.mpr (by omega))
  have e1 : Int32.ofInt ((x.toInt.toNat : Nat) : Int) = x := by rw [show ((x.toInt.toNat : Nat) : Int) = x.toInt by omega, q_of]
  have e2 : Int32.ofInt ((b.toInt.toNat : Nat) : Int) = b := by rw [show ((b.toInt.toNat : Nat) : Int) = b.toInt by omega, q_of]
  unfold v_orc at k2
  rw [e1, e2, decide_eq_false hb] at k2
  simp only [cond_false, Bool.and_eq_true, q_ilt_ok, q_ile_ok] at k2
  omega
set_option maxHeartbeats 1000000 in
theorem h_lpbA (hH : v_Met L xs v_ty v_Op 273 rw_241) (hA : v_Met L xs v_ty v_Op 276 rw_244) (hK : v_Met L xs v_ty v_Op 274 rw_242) (S : v_Sf) (R : v_Rf) (nn more g0 k0 : Int32) (m : Nat) (hm : (m : Int) < nn.toInt) (hn : nn.toInt ≤ 6) (hT : v_Tb v_ty S R) (hO : v_Op S) (K : ∀ (S' : v_Sf) (more' g' k' : Int32), v_Tb v_ty S' R → v_Op S' → v_Fr [(165, 0, 5), (166, 0, 12)] S R S' R → (more' = Int32.ofInt 1 ∧ v_mu 12 (S' 166) < v_mu 12 (S 166) ∨ more' = more ∧ S' = S) → w_T L xs (d + 4) m_X12_laysPlaces 55 [(3, .int (Int32.ofInt ((m + 1 : Nat) : Int))), (2, .int more'), (5, .int k'), (4, .int g'), (0, .ref 100), (1, .int nn)] [] S' R Q) : w_T L xs (d + 4) m_X12_laysPlaces 55 [(3, .int (Int32.ofInt (m : Int))), (2, .int more), (0, .ref 100), (1, .int nn)] [] S R Q := by
  have em := w_nat (k := m) (by omega)
  have emn : (Int32.ofInt (m : Int)).toInt.toNat = m := by rw [em]; omega
  have tS : v_TbC S R 152 _ := hT 152 _ rfl
  have tA : v_TbC S R 166 _ := hT 166 _ rfl
  have gb : 0 ≤ (S 152 (Int32.ofInt (m : Int)).toInt.toNat).toInt ∧ (S 152 (Int32.ofInt (m : Int)).toInt.toNat).toInt ≤ 11 := tS _ (by rw [emn]; omega)
  have f1 : ∀ j, v_frz 165 j j = false := fun j => rfl
  have f2 : ∀ j, v_frz 166 j j = false := fun j => rfl
  have c1 : ∀ j, j ≤ 5 → v_md [(165, 0, 5), (166, 0, 12)] 165 j j = true := fun j hj => v_md_mono (lo := 0) (hi := 5) (by decide +kernel) (Nat.zero_le _) hj
  have c2 : ∀ j, j ≤ 12 → v_md [(165, 0, 5), (166, 0, 12)] 166 j j = true := fun j hj => v_md_mono (lo := 0) (hi := 12) (by decide +kernel) (Nat.zero_le _) hj
  refine w_st rfl (fun _ => rfl) ?_
  refine w_st rfl (fun _ => rfl) ?_
  show w_T L xs (d + 4) m_X12_laysPlaces 57 [(3, .int (Int32.ofInt (m : Int))), (2, .int more), (0, .ref 100), (1, .int nn)] [.int nn, .int (Int32.ofInt (m : Int))] S R Q
  refine w_br (P := nn ≤ (Int32.ofInt (m : Int))) rfl (fun _ => rfl) (fun h57 => ?_) (fun h57 => ?_)
  · exfalso; rw [q_le32, em] at h57; omega
  · refine w_st rfl (fun _ => rfl) ?_
    show w_T L xs (d + 4) m_X12_laysPlaces 61 [(3, .int (Int32.ofInt (m : Int))), (2, .int more), (0, .ref 100), (1, .int nn)] [.ref 100] S R Q
    refine w_getr rfl v_tyM rfl ?_
    refine w_st rfl (fun _ => rfl) ?_
    show w_T L xs (d + 4) m_X12_laysPlaces 65 [(3, .int (Int32.ofInt (m : Int))), (2, .int more), (0, .ref 100), (1, .int nn)] [.int (Int32.ofInt (m : Int)), .ref 153] S R Q
    refine w_iald rfl rfl (by rw [em]; omega) (by rw [em]; omega) ?_
    refine w_st rfl (fun _ => rfl) ?_
    refine w_st rfl (fun _ => rfl) ?_
    refine w_st rfl (fun _ => rfl) ?_
    show w_T L xs (d + 4) m_X12_laysPlaces 71 [(4, .int (S 152 (Int32.ofInt (m : Int)).toInt.toNat)), (3, .int (Int32.ofInt (m : Int))), (2, .int more), (0, .ref 100), (1, .int nn)] [.int (S 152 (Int32.ofInt (m : Int)).toInt.toNat), .ref 100] S R Q
    refine w_cv rfl (by decide) mt_X12_isAnywhere v_tyM rfl rfl rfl (Nat.le_of_ble_eq_true rfl) (Nat.le_of_ble_eq_true rfl) (Nat.le_of_ble_eq_true rfl) ?_
    show w_T L xs _ m_X12_isAnywhere 0 (lv_args 0 [.ref 100, .int (S 152 (Int32.ofInt (m : Int)).toInt.toNat)]) [] S R _
    refine w_met hA (Nat.zero_le _) mt_X12_isAnywhere ⟨rfl, ⟨_, rfl, (q_rng _).1, (q_rng _).2⟩, trivial⟩ hT hO (fun r S1 R1 hT1 hO1 hr hF => ?_)
    obtain ⟨u, hr, -, -⟩ := hr
    subst hr
    obtain ⟨rfl, rfl⟩ := v_Fr_nil hF
    show w_T L xs (d + 4) m_X12_laysPlaces 74 [(4, .int (S 152 (Int32.ofInt (m : Int)).toInt.toNat)), (3, .int (Int32.ofInt (m : Int))), (2, .int more), (0, .ref 100), (1, .int nn)] [.int u] S R Q
    refine w_br (P := u = 0) rfl (fun _ => rfl) (fun h74 => ?_) (fun h74 => ?_)
    · refine w_st rfl (fun _ => rfl) ?_
      refine w_st rfl (fun _ => rfl) ?_
      show w_T L xs (d + 4) m_X12_laysPlaces 84 [(4, .int (S 152 (Int32.ofInt (m : Int)).toInt.toNat)), (3, .int (Int32.ofInt (m : Int))), (2, .int more), (0, .ref 100), (1, .int nn)] [.int (S 152 (Int32.ofInt (m : Int)).toInt.toNat), .ref 100] S R Q
      refine w_cv rfl (by decide) mt_X12_asksNext v_tyM rfl rfl rfl (Nat.le_of_ble_eq_true rfl) (Nat.le_of_ble_eq_true rfl) (Nat.le_of_ble_eq_true rfl) ?_
      show w_T L xs _ m_X12_asksNext 0 (lv_args 0 [.ref 100, .int (S 152 (Int32.ofInt (m : Int)).toInt.toNat)]) [] S R _
      refine h_asks (d := d + 1) hH S R _ gb.1 gb.2 hT hO (fun b hb => ?_)
      refine w_st rfl (fun _ => rfl) ?_
      refine w_st rfl (fun _ => rfl) ?_
      refine w_st rfl (fun _ => rfl) ?_
      show w_T L xs (d + 4) m_X12_laysPlaces 92 [(5, .int b), (4, .int (S 152 (Int32.ofInt (m : Int)).toInt.toNat)), (3, .int (Int32.ofInt (m : Int))), (2, .int more), (0, .ref 100), (1, .int nn)] [.int (Int32.ofInt (-1)), .int b] S R Q
      refine w_br (P := ¬ b = (Int32.ofInt (-1))) rfl (fun _ => rfl) (fun h92 => ?_) (fun h92 => ?_)
      · have bb : 0 ≤ b.toInt ∧ b.toInt ≤ 4 ∧ _ := (hb.resolve_left h92)
        refine w_st rfl (fun _ => rfl) ?_
        show w_T L xs (d + 4) m_X12_laysPlaces 99 [(5, .int b), (4, .int (S 152 (Int32.ofInt (m : Int)).toInt.toNat)), (3, .int (Int32.ofInt (m : Int))), (2, .int more), (0, .ref 100), (1, .int nn)] [.ref 100] S R Q
        refine w_getr rfl v_tyM rfl ?_
        refine w_st rfl (fun _ => rfl) ?_
        refine w_st rfl (fun _ => rfl) ?_
        show w_T L xs (d + 4) m_X12_laysPlaces 105 [(5, .int b), (4, .int (S 152 (Int32.ofInt (m : Int)).toInt.toNat)), (3, .int (Int32.ofInt (m : Int))), (2, .int more), (0, .ref 100), (1, .int nn)] [.int (S 152 (Int32.ofInt (m : Int)).toInt.toNat), .ref 167, .int (S 152 (Int32.ofInt (m : Int)).toInt.toNat), .ref 167] S R Q
        refine w_iald rfl rfl (by omega) (by omega) ?_
        refine w_st rfl (fun _ => rfl) ?_
        refine w_st rfl (fun _ => rfl) ?_
        refine w_st rfl (fun _ => rfl) ?_
        refine w_st rfl (fun _ => rfl) ?_
        show w_T L xs (d + 4) m_X12_laysPlaces 111 [(5, .int b), (4, .int (S 152 (Int32.ofInt (m : Int)).toInt.toNat)), (3, .int (Int32.ofInt (m : Int))), (2, .int more), (0, .ref 100), (1, .int nn)] [.int ((S 166 (S 152 (Int32.ofInt (m : Int)).toInt.toNat).toInt.toNat) ||| ((Int32.ofInt 1) <<< (b &&& 31))), .int (S 152 (Int32.ofInt (m : Int)).toInt.toNat), .ref 167] S R Q
        refine w_iast rfl rfl (by omega) (by omega) ?_
        have hor := w_orc (tA _ (by omega)).1 (tA _ (by omega)).2 bb.1 bb.2.1 bb.2.2
        have hT3 : v_Tb v_ty (v_ur S 166 (upd (S 166) (S 152 (Int32.ofInt (m : Int)).toInt.toNat).toInt.toNat ((S 166 (S 152 (Int32.ofInt (m : Int)).toInt.toNat).toInt.toNat) ||| ((Int32.ofInt 1) <<< (b &&& 31))))) R := w_TbR hT (a := 166) rfl (by have := (tA (S 152 (Int32.ofInt (m : Int)).toInt.toNat).toInt.toNat (by omega)).1; omega) hor.2
        have hO3 : v_Op (v_ur S 166 (upd (S 166) (S 152 (Int32.ofInt (m : Int)).toInt.toNat).toInt.toNat ((S 166 (S 152 (Int32.ofInt (m : Int)).toInt.toNat).toInt.toNat) ||| ((Int32.ofInt 1) <<< (b &&& 31))))) := w_Op_ur (f2 _) hO
        have hF3 : v_Fr [(165, 0, 5), (166, 0, 12)] S R (v_ur S 166 (upd (S 166) (S 152 (Int32.ofInt (m : Int)).toInt.toNat).toInt.toNat ((S 166 (S 152 (Int32.ofInt (m : Int)).toInt.toNat).toInt.toNat) ||| ((Int32.ofInt 1) <<< (b &&& 31))))) R := v_Fr_ur _ _ _ (c2 _ (by omega))
        have hmu : v_mu 12 ((v_ur S 166 (upd (S 166) (S 152 (Int32.ofInt (m : Int)).toInt.toNat).toInt.toNat ((S 166 (S 152 (Int32.ofInt (m : Int)).toInt.toNat).toInt.toNat) ||| ((Int32.ofInt 1) <<< (b &&& 31))))) 166) < v_mu 12 (S 166) := by
          rw [v_ur_s]
          exact v_mu_lt hor.1 hor.2 (by omega)
        have tK : v_TbC (v_ur S 166 (upd (S 166) (S 152 (Int32.ofInt (m : Int)).toInt.toNat).toInt.toNat ((S 166 (S 152 (Int32.ofInt (m : Int)).toInt.toNat).toInt.toNat) ||| ((Int32.ofInt 1) <<< (b &&& 31))))) R 165 _ := hT3 165 _ rfl
        have kb := tK b.toInt.toNat (by omega)
        refine w_st rfl (fun _ => rfl) ?_
        refine w_st rfl (fun _ => rfl) ?_
        refine w_st rfl (fun _ => rfl) ?_
        refine w_st rfl (fun _ => rfl) ?_
        show w_T L xs (d + 4) m_X12_laysPlaces 118 [(5, .int b), (4, .int (S 152 (Int32.ofInt (m : Int)).toInt.toNat)), (3, .int (Int32.ofInt (m : Int))), (2, .int more), (0, .ref 100), (1, .int nn)] [.ref 100, .int (S 152 (Int32.ofInt (m : Int)).toInt.toNat), .int b, .ref 100] (v_ur S 166 (upd (S 166) (S 152 (Int32.ofInt (m : Int)).toInt.toNat).toInt.toNat ((S 166 (S 152 (Int32.ofInt (m : Int)).toInt.toNat).toInt.toNat) ||| ((Int32.ofInt 1) <<< (b &&& 31))))) R Q
        refine w_getr rfl v_tyM rfl ?_
        refine w_st rfl (fun _ => rfl) ?_
        show w_T L xs (d + 4) m_X12_laysPlaces 123 [(5, .int b), (4, .int (S 152 (Int32.ofInt (m : Int)).toInt.toNat)), (3, .int (Int32.ofInt (m : Int))), (2, .int more), (0, .ref 100), (1, .int nn)] [.int b, .ref 166, .int (S 152 (Int32.ofInt (m : Int)).toInt.toNat), .int b, .ref 100] (v_ur S 166 (upd (S 166) (S 152 (Int32.ofInt (m : Int)).toInt.toNat).toInt.toNat ((S 166 (S 152 (Int32.ofInt (m : Int)).toInt.toNat).toInt.toNat) ||| ((Int32.ofInt 1) <<< (b &&& 31))))) R Q
        refine w_iald rfl rfl (by omega) (by omega) ?_
        show w_T L xs (d + 4) m_X12_laysPlaces 124 [(5, .int b), (4, .int (S 152 (Int32.ofInt (m : Int)).toInt.toNat)), (3, .int (Int32.ofInt (m : Int))), (2, .int more), (0, .ref 100), (1, .int nn)] [.int ((v_ur S 166 (upd (S 166) (S 152 (Int32.ofInt (m : Int)).toInt.toNat).toInt.toNat ((S 166 (S 152 (Int32.ofInt (m : Int)).toInt.toNat).toInt.toNat) ||| ((Int32.ofInt 1) <<< (b &&& 31))))) 165 b.toInt.toNat), .int (S 152 (Int32.ofInt (m : Int)).toInt.toNat), .int b, .ref 100] (v_ur S 166 (upd (S 166) (S 152 (Int32.ofInt (m : Int)).toInt.toNat).toInt.toNat ((S 166 (S 152 (Int32.ofInt (m : Int)).toInt.toNat).toInt.toNat) ||| ((Int32.ofInt 1) <<< (b &&& 31))))) R Q
        refine w_cv rfl (by decide) mt_X12_isLiked v_tyM rfl rfl rfl (Nat.le_of_ble_eq_true rfl) (Nat.le_of_ble_eq_true rfl) (Nat.le_of_ble_eq_true rfl) ?_
        show w_T L xs _ m_X12_isLiked 0 (lv_args 0 [.ref 100, .int b, .int (S 152 (Int32.ofInt (m : Int)).toInt.toNat), .int ((v_ur S 166 (upd (S 166) (S 152 (Int32.ofInt (m : Int)).toInt.toNat).toInt.toNat ((S 166 (S 152 (Int32.ofInt (m : Int)).toInt.toNat).toInt.toNat) ||| ((Int32.ofInt 1) <<< (b &&& 31))))) 165 b.toInt.toNat)]) [] (v_ur S 166 (upd (S 166) (S 152 (Int32.ofInt (m : Int)).toInt.toNat).toInt.toNat ((S 166 (S 152 (Int32.ofInt (m : Int)).toInt.toNat).toInt.toNat) ||| ((Int32.ofInt 1) <<< (b &&& 31))))) R _
        refine w_met hK (Nat.le_of_ble_eq_true rfl) mt_X12_isLiked ⟨rfl, ⟨_, rfl, bb.1, bb.2.1⟩, ⟨_, rfl, gb.1, gb.2⟩, ⟨_, rfl, kb.1, kb.2⟩, trivial⟩ hT3 hO3 (fun r S1 R1 hT1 hO1 hr hF => ?_)
        obtain ⟨u2, hr, -, -⟩ := hr
        subst hr
        obtain ⟨rfl, rfl⟩ := v_Fr_nil hF
        show w_T L xs (d + 4) m_X12_laysPlaces 127 [(5, .int b), (4, .int (S 152 (Int32.ofInt (m : Int)).toInt.toNat)), (3, .int (Int32.ofInt (m : Int))), (2, .int more), (0, .ref 100), (1, .int nn)] [.int u2] (v_ur S 166 (upd (S 166) (S 152 (Int32.ofInt (m : Int)).toInt.toNat).toInt.toNat ((S 166 (S 152 (Int32.ofInt (m : Int)).toInt.toNat).toInt.toNat) ||| ((Int32.ofInt 1) <<< (b &&& 31))))) R Q
        refine w_br (P := u2 = 0) rfl (fun _ => rfl) (fun h127 => ?_) (fun h127 => ?_)
        · refine w_st rfl (fun _ => rfl) ?_
          refine w_st rfl (fun _ => rfl) ?_
          refine w_st rfl (fun _ => rfl) ?_
          refine w_st rfl (fun _ => rfl) ?_
          show w_T L xs (d + 4) m_X12_laysPlaces 55 [(3, .int ((Int32.ofInt (m : Int)) + Int32.ofInt 1)), (2, .int (Int32.ofInt 1)), (5, .int b), (4, .int (S 152 (Int32.ofInt (m : Int)).toInt.toNat)), (0, .ref 100), (1, .int nn)] [] (v_ur S 166 (upd (S 166) (S 152 (Int32.ofInt (m : Int)).toInt.toNat).toInt.toNat ((S 166 (S 152 (Int32.ofInt (m : Int)).toInt.toNat).toInt.toNat) ||| ((Int32.ofInt 1) <<< (b &&& 31))))) R Q
          rw [w_inc]
          exact K _ _ _ _ hT3 hO3 hF3 (Or.inl ⟨rfl, hmu⟩)
        · refine w_st rfl (fun _ => rfl) ?_
          show w_T L xs (d + 4) m_X12_laysPlaces 131 [(5, .int b), (4, .int (S 152 (Int32.ofInt (m : Int)).toInt.toNat)), (3, .int (Int32.ofInt (m : Int))), (2, .int more), (0, .ref 100), (1, .int nn)] [.ref 100] (v_ur S 166 (upd (S 166) (S 152 (Int32.ofInt (m : Int)).toInt.toNat).toInt.toNat ((S 166 (S 152 (Int32.ofInt (m : Int)).toInt.toNat).toInt.toNat) ||| ((Int32.ofInt 1) <<< (b &&& 31))))) R Q
          refine w_getr rfl v_tyM rfl ?_
          refine w_st rfl (fun _ => rfl) ?_
          refine w_st rfl (fun _ => rfl) ?_
          show w_T L xs (d + 4) m_X12_laysPlaces 138 [(5, .int b), (4, .int (S 152 (Int32.ofInt (m : Int)).toInt.toNat)), (3, .int (Int32.ofInt (m : Int))), (2, .int more), (0, .ref 100), (1, .int nn)] [.int (S 152 (Int32.ofInt (m : Int)).toInt.toNat), .int b, .ref 166] (v_ur S 166 (upd (S 166) (S 152 (Int32.ofInt (m : Int)).toInt.toNat).toInt.toNat ((S 166 (S 152 (Int32.ofInt (m : Int)).toInt.toNat).toInt.toNat) ||| ((Int32.ofInt 1) <<< (b &&& 31))))) R Q
          refine w_iast rfl rfl (by omega) (by omega) ?_
          refine w_st rfl (fun _ => rfl) ?_
          refine w_st rfl (fun _ => rfl) ?_
          refine w_st rfl (fun _ => rfl) ?_
          refine w_st rfl (fun _ => rfl) ?_
          show w_T L xs (d + 4) m_X12_laysPlaces 55 [(3, .int ((Int32.ofInt (m : Int)) + Int32.ofInt 1)), (2, .int (Int32.ofInt 1)), (5, .int b), (4, .int (S 152 (Int32.ofInt (m : Int)).toInt.toNat)), (0, .ref 100), (1, .int nn)] [] (v_ur (v_ur S 166 (upd (S 166) (S 152 (Int32.ofInt (m : Int)).toInt.toNat).toInt.toNat ((S 166 (S 152 (Int32.ofInt (m : Int)).toInt.toNat).toInt.toNat) ||| ((Int32.ofInt 1) <<< (b &&& 31))))) 165 (upd ((v_ur S 166 (upd (S 166) (S 152 (Int32.ofInt (m : Int)).toInt.toNat).toInt.toNat ((S 166 (S 152 (Int32.ofInt (m : Int)).toInt.toNat).toInt.toNat) ||| ((Int32.ofInt 1) <<< (b &&& 31))))) 165) b.toInt.toNat (S 152 (Int32.ofInt (m : Int)).toInt.toNat))) R Q
          rw [w_inc]
          exact K _ _ _ _ (w_TbR hT3 (a := 165) rfl (by omega) gb.2) (w_Op_ur (f1 _) hO3) (v_Fr_tr hF3 (v_Fr_ur _ _ _ (c1 _ (by omega)))) (Or.inl ⟨rfl, by rw [v_ur_n _ _ (by decide)]; exact hmu⟩)
      · refine w_st rfl (fun _ => rfl) ?_
        refine w_st rfl (fun _ => rfl) ?_
        refine w_st rfl (fun _ => rfl) ?_
        show w_T L xs (d + 4) m_X12_laysPlaces 55 [(3, .int ((Int32.ofInt (m : Int)) + Int32.ofInt 1)), (5, .int b), (4, .int (S 152 (Int32.ofInt (m : Int)).toInt.toNat)), (2, .int more), (0, .ref 100), (1, .int nn)] [] S R Q
        refine w_lc (b := [(3, .int ((Int32.ofInt (m : Int)) + Int32.ofInt 1)), (2, .int more), (5, .int b), (4, .int (S 152 (Int32.ofInt (m : Int)).toInt.toNat)), (0, .ref 100), (1, .int nn)]) (show ([3, 5, 4, 2, 0, 1] : List Nat).Nodup by decide) (show ([3, 2, 5, 4, 0, 1] : List Nat).Nodup by decide) (fun i => match i with | 0 => rfl | 1 => rfl | 2 => rfl | 3 => rfl | 4 => rfl | 5 => rfl | _ + 6 => rfl) ?_
        rw [w_inc]
        exact K _ _ _ _ hT hO (v_Fr_rf _ _ _) (Or.inr ⟨rfl, rfl⟩)
    · refine w_st rfl (fun _ => rfl) ?_
      refine w_st rfl (fun _ => rfl) ?_
      refine w_st rfl (fun _ => rfl) ?_
      refine w_st rfl (fun _ => rfl) ?_
      refine w_st rfl (fun _ => rfl) ?_
      show w_T L xs (d + 4) m_X12_laysPlaces 92 [(5, .int (Int32.ofInt (-1))), (4, .int (S 152 (Int32.ofInt (m : Int)).toInt.toNat)), (3, .int (Int32.ofInt (m : Int))), (2, .int more), (0, .ref 100), (1, .int nn)] [.int (Int32.ofInt (-1)), .int (Int32.ofInt (-1))] S R Q
      refine w_st rfl (fun _ => rfl) ?_
      refine w_st rfl (fun _ => rfl) ?_
      refine w_st rfl (fun _ => rfl) ?_
      refine w_st rfl (fun _ => rfl) ?_
      show w_T L xs (d + 4) m_X12_laysPlaces 55 [(3, .int ((Int32.ofInt (m : Int)) + Int32.ofInt 1)), (5, .int (Int32.ofInt (-1))), (4, .int (S 152 (Int32.ofInt (m : Int)).toInt.toNat)), (2, .int more), (0, .ref 100), (1, .int nn)] [] S R Q
      refine w_lc (b := [(3, .int ((Int32.ofInt (m : Int)) + Int32.ofInt 1)), (2, .int more), (5, .int (Int32.ofInt (-1))), (4, .int (S 152 (Int32.ofInt (m : Int)).toInt.toNat)), (0, .ref 100), (1, .int nn)]) (show ([3, 5, 4, 2, 0, 1] : List Nat).Nodup by decide) (show ([3, 2, 5, 4, 0, 1] : List Nat).Nodup by decide) (fun i => match i with | 0 => rfl | 1 => rfl | 2 => rfl | 3 => rfl | 4 => rfl | 5 => rfl | _ + 6 => rfl) ?_
      rw [w_inc]
      exact K _ _ _ _ hT hO (v_Fr_rf _ _ _) (Or.inr ⟨rfl, rfl⟩)
set_option maxHeartbeats 1000000 in
theorem h_lpbB (hH : v_Met L xs v_ty v_Op 273 rw_241) (hA : v_Met L xs v_ty v_Op 276 rw_244) (hK : v_Met L xs v_ty v_Op 274 rw_242) (S : v_Sf) (R : v_Rf) (nn more g0 k0 : Int32) (m : Nat) (hm : (m : Int) < nn.toInt) (hn : nn.toInt ≤ 6) (hT : v_Tb v_ty S R) (hO : v_Op S) (K : ∀ (S' : v_Sf) (more' g' k' : Int32), v_Tb v_ty S' R → v_Op S' → v_Fr [(165, 0, 5), (166, 0, 12)] S R S' R → (more' = Int32.ofInt 1 ∧ v_mu 12 (S' 166) < v_mu 12 (S 166) ∨ more' = more ∧ S' = S) → w_T L xs (d + 4) m_X12_laysPlaces 55 [(3, .int (Int32.ofInt ((m + 1 : Nat) : Int))), (2, .int more'), (5, .int k'), (4, .int g'), (0, .ref 100), (1, .int nn)] [] S' R Q) : w_T L xs (d + 4) m_X12_laysPlaces 55 [(3, .int (Int32.ofInt (m : Int))), (2, .int more), (5, .int k0), (4, .int g0), (0, .ref 100), (1, .int nn)] [] S R Q := by
  have em := w_nat (k := m) (by omega)
  have emn : (Int32.ofInt (m : Int)).toInt.toNat = m := by rw [em]; omega
  have tS : v_TbC S R 152 _ := hT 152 _ rfl
  have tA : v_TbC S R 166 _ := hT 166 _ rfl
  have gb : 0 ≤ (S 152 (Int32.ofInt (m : Int)).toInt.toNat).toInt ∧ (S 152 (Int32.ofInt (m : Int)).toInt.toNat).toInt ≤ 11 := tS _ (by rw [emn]; omega)
  have f1 : ∀ j, v_frz 165 j j = false := fun j => rfl
  have f2 : ∀ j, v_frz 166 j j = false := fun j => rfl
  have c1 : ∀ j, j ≤ 5 → v_md [(165, 0, 5), (166, 0, 12)] 165 j j = true := fun j hj => v_md_mono (lo := 0) (hi := 5) (by decide +kernel) (Nat.zero_le _) hj
  have c2 : ∀ j, j ≤ 12 → v_md [(165, 0, 5), (166, 0, 12)] 166 j j = true := fun j hj => v_md_mono (lo := 0) (hi := 12) (by decide +kernel) (Nat.zero_le _) hj
  refine w_st rfl (fun _ => rfl) ?_
  refine w_st rfl (fun _ => rfl) ?_
  show w_T L xs (d + 4) m_X12_laysPlaces 57 [(3, .int (Int32.ofInt (m : Int))), (2, .int more), (5, .int k0), (4, .int g0), (0, .ref 100), (1, .int nn)] [.int nn, .int (Int32.ofInt (m : Int))] S R Q
  refine w_br (P := nn ≤ (Int32.ofInt (m : Int))) rfl (fun _ => rfl) (fun h57 => ?_) (fun h57 => ?_)
  · exfalso; rw [q_le32, em] at h57; omega
  · refine w_st rfl (fun _ => rfl) ?_
    show w_T L xs (d + 4) m_X12_laysPlaces 61 [(3, .int (Int32.ofInt (m : Int))), (2, .int more), (5, .int k0), (4, .int g0), (0, .ref 100), (1, .int nn)] [.ref 100] S R Q
    refine w_getr rfl v_tyM rfl ?_
    refine w_st rfl (fun _ => rfl) ?_
    show w_T L xs (d + 4) m_X12_laysPlaces 65 [(3, .int (Int32.ofInt (m : Int))), (2, .int more), (5, .int k0), (4, .int g0), (0, .ref 100), (1, .int nn)] [.int (Int32.ofInt (m : Int)), .ref 153] S R Q
    refine w_iald rfl rfl (by rw [em]; omega) (by rw [em]; omega) ?_
    refine w_st rfl (fun _ => rfl) ?_
    refine w_st rfl (fun _ => rfl) ?_
    refine w_st rfl (fun _ => rfl) ?_
    show w_T L xs (d + 4) m_X12_laysPlaces 71 [(4, .int (S 152 (Int32.ofInt (m : Int)).toInt.toNat)), (3, .int (Int32.ofInt (m : Int))), (2, .int more), (5, .int k0), (0, .ref 100), (1, .int nn)] [.int (S 152 (Int32.ofInt (m : Int)).toInt.toNat), .ref 100] S R Q
    refine w_cv rfl (by decide) mt_X12_isAnywhere v_tyM rfl rfl rfl (Nat.le_of_ble_eq_true rfl) (Nat.le_of_ble_eq_true rfl) (Nat.le_of_ble_eq_true rfl) ?_
    show w_T L xs _ m_X12_isAnywhere 0 (lv_args 0 [.ref 100, .int (S 152 (Int32.ofInt (m : Int)).toInt.toNat)]) [] S R _
    refine w_met hA (Nat.zero_le _) mt_X12_isAnywhere ⟨rfl, ⟨_, rfl, (q_rng _).1, (q_rng _).2⟩, trivial⟩ hT hO (fun r S1 R1 hT1 hO1 hr hF => ?_)
    obtain ⟨u, hr, -, -⟩ := hr
    subst hr
    obtain ⟨rfl, rfl⟩ := v_Fr_nil hF
    show w_T L xs (d + 4) m_X12_laysPlaces 74 [(4, .int (S 152 (Int32.ofInt (m : Int)).toInt.toNat)), (3, .int (Int32.ofInt (m : Int))), (2, .int more), (5, .int k0), (0, .ref 100), (1, .int nn)] [.int u] S R Q
    refine w_br (P := u = 0) rfl (fun _ => rfl) (fun h74 => ?_) (fun h74 => ?_)
    · refine w_st rfl (fun _ => rfl) ?_
      refine w_st rfl (fun _ => rfl) ?_
      show w_T L xs (d + 4) m_X12_laysPlaces 84 [(4, .int (S 152 (Int32.ofInt (m : Int)).toInt.toNat)), (3, .int (Int32.ofInt (m : Int))), (2, .int more), (5, .int k0), (0, .ref 100), (1, .int nn)] [.int (S 152 (Int32.ofInt (m : Int)).toInt.toNat), .ref 100] S R Q
      refine w_cv rfl (by decide) mt_X12_asksNext v_tyM rfl rfl rfl (Nat.le_of_ble_eq_true rfl) (Nat.le_of_ble_eq_true rfl) (Nat.le_of_ble_eq_true rfl) ?_
      show w_T L xs _ m_X12_asksNext 0 (lv_args 0 [.ref 100, .int (S 152 (Int32.ofInt (m : Int)).toInt.toNat)]) [] S R _
      refine h_asks (d := d + 1) hH S R _ gb.1 gb.2 hT hO (fun b hb => ?_)
      refine w_st rfl (fun _ => rfl) ?_
      refine w_st rfl (fun _ => rfl) ?_
      refine w_st rfl (fun _ => rfl) ?_
      show w_T L xs (d + 4) m_X12_laysPlaces 92 [(5, .int b), (4, .int (S 152 (Int32.ofInt (m : Int)).toInt.toNat)), (3, .int (Int32.ofInt (m : Int))), (2, .int more), (0, .ref 100), (1, .int nn)] [.int (Int32.ofInt (-1)), .int b] S R Q
      refine w_br (P := ¬ b = (Int32.ofInt (-1))) rfl (fun _ => rfl) (fun h92 => ?_) (fun h92 => ?_)
      · have bb : 0 ≤ b.toInt ∧ b.toInt ≤ 4 ∧ _ := (hb.resolve_left h92)
        refine w_st rfl (fun _ => rfl) ?_
        show w_T L xs (d + 4) m_X12_laysPlaces 99 [(5, .int b), (4, .int (S 152 (Int32.ofInt (m : Int)).toInt.toNat)), (3, .int (Int32.ofInt (m : Int))), (2, .int more), (0, .ref 100), (1, .int nn)] [.ref 100] S R Q
        refine w_getr rfl v_tyM rfl ?_
        refine w_st rfl (fun _ => rfl) ?_
        refine w_st rfl (fun _ => rfl) ?_
        show w_T L xs (d + 4) m_X12_laysPlaces 105 [(5, .int b), (4, .int (S 152 (Int32.ofInt (m : Int)).toInt.toNat)), (3, .int (Int32.ofInt (m : Int))), (2, .int more), (0, .ref 100), (1, .int nn)] [.int (S 152 (Int32.ofInt (m : Int)).toInt.toNat), .ref 167, .int (S 152 (Int32.ofInt (m : Int)).toInt.toNat), .ref 167] S R Q
        refine w_iald rfl rfl (by omega) (by omega) ?_
        refine w_st rfl (fun _ => rfl) ?_
        refine w_st rfl (fun _ => rfl) ?_
        refine w_st rfl (fun _ => rfl) ?_
        refine w_st rfl (fun _ => rfl) ?_
        show w_T L xs (d + 4) m_X12_laysPlaces 111 [(5, .int b), (4, .int (S 152 (Int32.ofInt (m : Int)).toInt.toNat)), (3, .int (Int32.ofInt (m : Int))), (2, .int more), (0, .ref 100), (1, .int nn)] [.int ((S 166 (S 152 (Int32.ofInt (m : Int)).toInt.toNat).toInt.toNat) ||| ((Int32.ofInt 1) <<< (b &&& 31))), .int (S 152 (Int32.ofInt (m : Int)).toInt.toNat), .ref 167] S R Q
        refine w_iast rfl rfl (by omega) (by omega) ?_
        have hor := w_orc (tA _ (by omega)).1 (tA _ (by omega)).2 bb.1 bb.2.1 bb.2.2
        have hT3 : v_Tb v_ty (v_ur S 166 (upd (S 166) (S 152 (Int32.ofInt (m : Int)).toInt.toNat).toInt.toNat ((S 166 (S 152 (Int32.ofInt (m : Int)).toInt.toNat).toInt.toNat) ||| ((Int32.ofInt 1) <<< (b &&& 31))))) R := w_TbR hT (a := 166) rfl (by have := (tA (S 152 (Int32.ofInt (m : Int)).toInt.toNat).toInt.toNat (by omega)).1; omega) hor.2
        have hO3 : v_Op (v_ur S 166 (upd (S 166) (S 152 (Int32.ofInt (m : Int)).toInt.toNat).toInt.toNat ((S 166 (S 152 (Int32.ofInt (m : Int)).toInt.toNat).toInt.toNat) ||| ((Int32.ofInt 1) <<< (b &&& 31))))) := w_Op_ur (f2 _) hO
        have hF3 : v_Fr [(165, 0, 5), (166, 0, 12)] S R (v_ur S 166 (upd (S 166) (S 152 (Int32.ofInt (m : Int)).toInt.toNat).toInt.toNat ((S 166 (S 152 (Int32.ofInt (m : Int)).toInt.toNat).toInt.toNat) ||| ((Int32.ofInt 1) <<< (b &&& 31))))) R := v_Fr_ur _ _ _ (c2 _ (by omega))
        have hmu : v_mu 12 ((v_ur S 166 (upd (S 166) (S 152 (Int32.ofInt (m : Int)).toInt.toNat).toInt.toNat ((S 166 (S 152 (Int32.ofInt (m : Int)).toInt.toNat).toInt.toNat) ||| ((Int32.ofInt 1) <<< (b &&& 31))))) 166) < v_mu 12 (S 166) := by
          rw [v_ur_s]
          exact v_mu_lt hor.1 hor.2 (by omega)
        have tK : v_TbC (v_ur S 166 (upd (S 166) (S 152 (Int32.ofInt (m : Int)).toInt.toNat).toInt.toNat ((S 166 (S 152 (Int32.ofInt (m : Int)).toInt.toNat).toInt.toNat) ||| ((Int32.ofInt 1) <<< (b &&& 31))))) R 165 _ := hT3 165 _ rfl
        have kb := tK b.toInt.toNat (by omega)
        refine w_st rfl (fun _ => rfl) ?_
        refine w_st rfl (fun _ => rfl) ?_
        refine w_st rfl (fun _ => rfl) ?_
        refine w_st rfl (fun _ => rfl) ?_
        show w_T L xs (d + 4) m_X12_laysPlaces 118 [(5, .int b), (4, .int (S 152 (Int32.ofInt (m : Int)).toInt.toNat)), (3, .int (Int32.ofInt (m : Int))), (2, .int more), (0, .ref 100), (1, .int nn)] [.ref 100, .int (S 152 (Int32.ofInt (m : Int)).toInt.toNat), .int b, .ref 100] (v_ur S 166 (upd (S 166) (S 152 (Int32.ofInt (m : Int)).toInt.toNat).toInt.toNat ((S 166 (S 152 (Int32.ofInt (m : Int)).toInt.toNat).toInt.toNat) ||| ((Int32.ofInt 1) <<< (b &&& 31))))) R Q
        refine w_getr rfl v_tyM rfl ?_
        refine w_st rfl (fun _ => rfl) ?_
        show w_T L xs (d + 4) m_X12_laysPlaces 123 [(5, .int b), (4, .int (S 152 (Int32.ofInt (m : Int)).toInt.toNat)), (3, .int (Int32.ofInt (m : Int))), (2, .int more), (0, .ref 100), (1, .int nn)] [.int b, .ref 166, .int (S 152 (Int32.ofInt (m : Int)).toInt.toNat), .int b, .ref 100] (v_ur S 166 (upd (S 166) (S 152 (Int32.ofInt (m : Int)).toInt.toNat).toInt.toNat ((S 166 (S 152 (Int32.ofInt (m : Int)).toInt.toNat).toInt.toNat) ||| ((Int32.ofInt 1) <<< (b &&& 31))))) R Q
        refine w_iald rfl rfl (by omega) (by omega) ?_
        show w_T L xs (d + 4) m_X12_laysPlaces 124 [(5, .int b), (4, .int (S 152 (Int32.ofInt (m : Int)).toInt.toNat)), (3, .int (Int32.ofInt (m : Int))), (2, .int more), (0, .ref 100), (1, .int nn)] [.int ((v_ur S 166 (upd (S 166) (S 152 (Int32.ofInt (m : Int)).toInt.toNat).toInt.toNat ((S 166 (S 152 (Int32.ofInt (m : Int)).toInt.toNat).toInt.toNat) ||| ((Int32.ofInt 1) <<< (b &&& 31))))) 165 b.toInt.toNat), .int (S 152 (Int32.ofInt (m : Int)).toInt.toNat), .int b, .ref 100] (v_ur S 166 (upd (S 166) (S 152 (Int32.ofInt (m : Int)).toInt.toNat).toInt.toNat ((S 166 (S 152 (Int32.ofInt (m : Int)).toInt.toNat).toInt.toNat) ||| ((Int32.ofInt 1) <<< (b &&& 31))))) R Q
        refine w_cv rfl (by decide) mt_X12_isLiked v_tyM rfl rfl rfl (Nat.le_of_ble_eq_true rfl) (Nat.le_of_ble_eq_true rfl) (Nat.le_of_ble_eq_true rfl) ?_
        show w_T L xs _ m_X12_isLiked 0 (lv_args 0 [.ref 100, .int b, .int (S 152 (Int32.ofInt (m : Int)).toInt.toNat), .int ((v_ur S 166 (upd (S 166) (S 152 (Int32.ofInt (m : Int)).toInt.toNat).toInt.toNat ((S 166 (S 152 (Int32.ofInt (m : Int)).toInt.toNat).toInt.toNat) ||| ((Int32.ofInt 1) <<< (b &&& 31))))) 165 b.toInt.toNat)]) [] (v_ur S 166 (upd (S 166) (S 152 (Int32.ofInt (m : Int)).toInt.toNat).toInt.toNat ((S 166 (S 152 (Int32.ofInt (m : Int)).toInt.toNat).toInt.toNat) ||| ((Int32.ofInt 1) <<< (b &&& 31))))) R _
        refine w_met hK (Nat.le_of_ble_eq_true rfl) mt_X12_isLiked ⟨rfl, ⟨_, rfl, bb.1, bb.2.1⟩, ⟨_, rfl, gb.1, gb.2⟩, ⟨_, rfl, kb.1, kb.2⟩, trivial⟩ hT3 hO3 (fun r S1 R1 hT1 hO1 hr hF => ?_)
        obtain ⟨u2, hr, -, -⟩ := hr
        subst hr
        obtain ⟨rfl, rfl⟩ := v_Fr_nil hF
        show w_T L xs (d + 4) m_X12_laysPlaces 127 [(5, .int b), (4, .int (S 152 (Int32.ofInt (m : Int)).toInt.toNat)), (3, .int (Int32.ofInt (m : Int))), (2, .int more), (0, .ref 100), (1, .int nn)] [.int u2] (v_ur S 166 (upd (S 166) (S 152 (Int32.ofInt (m : Int)).toInt.toNat).toInt.toNat ((S 166 (S 152 (Int32.ofInt (m : Int)).toInt.toNat).toInt.toNat) ||| ((Int32.ofInt 1) <<< (b &&& 31))))) R Q
        refine w_br (P := u2 = 0) rfl (fun _ => rfl) (fun h127 => ?_) (fun h127 => ?_)
        · refine w_st rfl (fun _ => rfl) ?_
          refine w_st rfl (fun _ => rfl) ?_
          refine w_st rfl (fun _ => rfl) ?_
          refine w_st rfl (fun _ => rfl) ?_
          show w_T L xs (d + 4) m_X12_laysPlaces 55 [(3, .int ((Int32.ofInt (m : Int)) + Int32.ofInt 1)), (2, .int (Int32.ofInt 1)), (5, .int b), (4, .int (S 152 (Int32.ofInt (m : Int)).toInt.toNat)), (0, .ref 100), (1, .int nn)] [] (v_ur S 166 (upd (S 166) (S 152 (Int32.ofInt (m : Int)).toInt.toNat).toInt.toNat ((S 166 (S 152 (Int32.ofInt (m : Int)).toInt.toNat).toInt.toNat) ||| ((Int32.ofInt 1) <<< (b &&& 31))))) R Q
          rw [w_inc]
          exact K _ _ _ _ hT3 hO3 hF3 (Or.inl ⟨rfl, hmu⟩)
        · refine w_st rfl (fun _ => rfl) ?_
          show w_T L xs (d + 4) m_X12_laysPlaces 131 [(5, .int b), (4, .int (S 152 (Int32.ofInt (m : Int)).toInt.toNat)), (3, .int (Int32.ofInt (m : Int))), (2, .int more), (0, .ref 100), (1, .int nn)] [.ref 100] (v_ur S 166 (upd (S 166) (S 152 (Int32.ofInt (m : Int)).toInt.toNat).toInt.toNat ((S 166 (S 152 (Int32.ofInt (m : Int)).toInt.toNat).toInt.toNat) ||| ((Int32.ofInt 1) <<< (b &&& 31))))) R Q
          refine w_getr rfl v_tyM rfl ?_
          refine w_st rfl (fun _ => rfl) ?_
          refine w_st rfl (fun _ => rfl) ?_
          show w_T L xs (d + 4) m_X12_laysPlaces 138 [(5, .int b), (4, .int (S 152 (Int32.ofInt (m : Int)).toInt.toNat)), (3, .int (Int32.ofInt (m : Int))), (2, .int more), (0, .ref 100), (1, .int nn)] [.int (S 152 (Int32.ofInt (m : Int)).toInt.toNat), .int b, .ref 166] (v_ur S 166 (upd (S 166) (S 152 (Int32.ofInt (m : Int)).toInt.toNat).toInt.toNat ((S 166 (S 152 (Int32.ofInt (m : Int)).toInt.toNat).toInt.toNat) ||| ((Int32.ofInt 1) <<< (b &&& 31))))) R Q
          refine w_iast rfl rfl (by omega) (by omega) ?_
          refine w_st rfl (fun _ => rfl) ?_
          refine w_st rfl (fun _ => rfl) ?_
          refine w_st rfl (fun _ => rfl) ?_
          refine w_st rfl (fun _ => rfl) ?_
          show w_T L xs (d + 4) m_X12_laysPlaces 55 [(3, .int ((Int32.ofInt (m : Int)) + Int32.ofInt 1)), (2, .int (Int32.ofInt 1)), (5, .int b), (4, .int (S 152 (Int32.ofInt (m : Int)).toInt.toNat)), (0, .ref 100), (1, .int nn)] [] (v_ur (v_ur S 166 (upd (S 166) (S 152 (Int32.ofInt (m : Int)).toInt.toNat).toInt.toNat ((S 166 (S 152 (Int32.ofInt (m : Int)).toInt.toNat).toInt.toNat) ||| ((Int32.ofInt 1) <<< (b &&& 31))))) 165 (upd ((v_ur S 166 (upd (S 166) (S 152 (Int32.ofInt (m : Int)).toInt.toNat).toInt.toNat ((S 166 (S 152 (Int32.ofInt (m : Int)).toInt.toNat).toInt.toNat) ||| ((Int32.ofInt 1) <<< (b &&& 31))))) 165) b.toInt.toNat (S 152 (Int32.ofInt (m : Int)).toInt.toNat))) R Q
          rw [w_inc]
          exact K _ _ _ _ (w_TbR hT3 (a := 165) rfl (by omega) gb.2) (w_Op_ur (f1 _) hO3) (v_Fr_tr hF3 (v_Fr_ur _ _ _ (c1 _ (by omega)))) (Or.inl ⟨rfl, by rw [v_ur_n _ _ (by decide)]; exact hmu⟩)
      · refine w_st rfl (fun _ => rfl) ?_
        refine w_st rfl (fun _ => rfl) ?_
        refine w_st rfl (fun _ => rfl) ?_
        show w_T L xs (d + 4) m_X12_laysPlaces 55 [(3, .int ((Int32.ofInt (m : Int)) + Int32.ofInt 1)), (5, .int b), (4, .int (S 152 (Int32.ofInt (m : Int)).toInt.toNat)), (2, .int more), (0, .ref 100), (1, .int nn)] [] S R Q
        refine w_lc (b := [(3, .int ((Int32.ofInt (m : Int)) + Int32.ofInt 1)), (2, .int more), (5, .int b), (4, .int (S 152 (Int32.ofInt (m : Int)).toInt.toNat)), (0, .ref 100), (1, .int nn)]) (show ([3, 5, 4, 2, 0, 1] : List Nat).Nodup by decide) (show ([3, 2, 5, 4, 0, 1] : List Nat).Nodup by decide) (fun i => match i with | 0 => rfl | 1 => rfl | 2 => rfl | 3 => rfl | 4 => rfl | 5 => rfl | _ + 6 => rfl) ?_
        rw [w_inc]
        exact K _ _ _ _ hT hO (v_Fr_rf _ _ _) (Or.inr ⟨rfl, rfl⟩)
    · refine w_st rfl (fun _ => rfl) ?_
      refine w_st rfl (fun _ => rfl) ?_
      refine w_st rfl (fun _ => rfl) ?_
      refine w_st rfl (fun _ => rfl) ?_
      refine w_st rfl (fun _ => rfl) ?_
      show w_T L xs (d + 4) m_X12_laysPlaces 92 [(5, .int (Int32.ofInt (-1))), (4, .int (S 152 (Int32.ofInt (m : Int)).toInt.toNat)), (3, .int (Int32.ofInt (m : Int))), (2, .int more), (0, .ref 100), (1, .int nn)] [.int (Int32.ofInt (-1)), .int (Int32.ofInt (-1))] S R Q
      refine w_st rfl (fun _ => rfl) ?_
      refine w_st rfl (fun _ => rfl) ?_
      refine w_st rfl (fun _ => rfl) ?_
      refine w_st rfl (fun _ => rfl) ?_
      show w_T L xs (d + 4) m_X12_laysPlaces 55 [(3, .int ((Int32.ofInt (m : Int)) + Int32.ofInt 1)), (5, .int (Int32.ofInt (-1))), (4, .int (S 152 (Int32.ofInt (m : Int)).toInt.toNat)), (2, .int more), (0, .ref 100), (1, .int nn)] [] S R Q
      refine w_lc (b := [(3, .int ((Int32.ofInt (m : Int)) + Int32.ofInt 1)), (2, .int more), (5, .int (Int32.ofInt (-1))), (4, .int (S 152 (Int32.ofInt (m : Int)).toInt.toNat)), (0, .ref 100), (1, .int nn)]) (show ([3, 5, 4, 2, 0, 1] : List Nat).Nodup by decide) (show ([3, 2, 5, 4, 0, 1] : List Nat).Nodup by decide) (fun i => match i with | 0 => rfl | 1 => rfl | 2 => rfl | 3 => rfl | 4 => rfl | 5 => rfl | _ + 6 => rfl) ?_
      rw [w_inc]
      exact K _ _ _ _ hT hO (v_Fr_rf _ _ _) (Or.inr ⟨rfl, rfl⟩)
theorem h_lpf (hH : v_Met L xs v_ty v_Op 273 rw_241) (hA : v_Met L xs v_ty v_Op 276 rw_244) (hK : v_Met L xs v_ty v_Op 274 rw_242) (R : v_Rf) (nn : Int32) (n1 : 1 ≤ nn.toInt) (hn : nn.toInt ≤ 6) (μ : Nat) : ∀ (c m : Nat) (S : v_Sf) (more g0 k0 : Int32), ((m + c : Nat) : Int) = nn.toInt → v_Tb v_ty S R → v_Op S → (more = Int32.ofInt 1 ∧ v_mu 12 (S 166) < μ ∨ more = Int32.ofInt 0 ∧ v_mu 12 (S 166) ≤ μ) → (∀ (S' : v_Sf) (more' mm g' k' : Int32), v_Tb v_ty S' R → v_Op S' → v_Fr [(165, 0, 5), (166, 0, 12)] S R S' R → (more' = Int32.ofInt 1 ∧ v_mu 12 (S' 166) < μ ∨ more' = Int32.ofInt 0) → w_T L xs (d + 4) m_X12_laysPlaces 47 [(2, .int (more')), (3, .int mm), (5, .int (k')), (4, .int (g')), (0, .ref 100), (1, .int nn)] [] S' R Q) → w_T L xs (d + 4) m_X12_laysPlaces 55 [(3, .int (Int32.ofInt (m : Int))), (2, .int more), (5, .int k0), (4, .int g0), (0, .ref 100), (1, .int nn)] [] S R Q := by
  intro c
  induction c with
  | zero =>
    intro m S more g0 k0 hc hT hO hmu K
    have em := w_nat (k := m) (by omega)
    refine w_st rfl (fun _ => rfl) ?_
    refine w_st rfl (fun _ => rfl) ?_
    show w_T L xs (d + 4) m_X12_laysPlaces 57 [(3, .int (Int32.ofInt (m : Int))), (2, .int more), (5, .int k0), (4, .int g0), (0, .ref 100), (1, .int nn)] [.int nn, .int (Int32.ofInt (m : Int))] S R Q
    refine w_br (P := nn ≤ (Int32.ofInt (m : Int))) rfl (fun _ => rfl) (fun h57 => ?_) (fun h57 => ?_)
    · refine w_st rfl (fun _ => rfl) ?_
      show w_T L xs (d + 4) m_X12_laysPlaces 47 [(3, .int (Int32.ofInt (m : Int))), (2, .int more), (5, .int k0), (4, .int g0), (0, .ref 100), (1, .int nn)] [] S R Q
      refine w_lc (b := [(2, .int more), (3, .int (Int32.ofInt (m : Int))), (5, .int k0), (4, .int g0), (0, .ref 100), (1, .int nn)]) (show ([3, 2, 5, 4, 0, 1] : List Nat).Nodup by decide) (show ([2, 3, 5, 4, 0, 1] : List Nat).Nodup by decide) (fun i => match i with | 0 => rfl | 1 => rfl | 2 => rfl | 3 => rfl | 4 => rfl | 5 => rfl | _ + 6 => rfl) ?_
      exact K S _ _ _ _ hT hO (v_Fr_rf _ _ _) (hmu.imp id (fun h => h.1))
    · exfalso; rw [q_le32, em] at h57; omega
  | succ c ih =>
    intro m S more g0 k0 hc hT hO hmu K
    refine h_lpbB hH hA hK S R nn more g0 k0 m (by omega) hn hT hO (fun S' more' g' k' k1 k2 k3 k4 => ?_)
    refine ih (m + 1) S' more' g' k' (by omega) k1 k2 ?_ (fun S2 m2 mm g2 k2' q1 q2 q3 q4 => K S2 m2 mm g2 k2' q1 q2 (v_Fr_tr k3 q3) q4)
    rcases k4 with ⟨e, h⟩ | ⟨e, h⟩
    · refine Or.inl ⟨e, ?_⟩
      rcases hmu with h2 | h2
      · omega
      · omega
    · subst h
      rw [e]
      exact hmu
theorem h_lpw (hH : v_Met L xs v_ty v_Op 273 rw_241) (hA : v_Met L xs v_ty v_Op 276 rw_244) (hK : v_Met L xs v_ty v_Op 274 rw_242) (R : v_Rf) (nn : Int32) (n1 : 1 ≤ nn.toInt) (hn : nn.toInt ≤ 6) : ∀ (μ : Nat) (S : v_Sf) (more' mm g' k' : Int32), v_mu 12 (S 166) ≤ μ → (more' = Int32.ofInt 1 ∨ more' = Int32.ofInt 0) → v_Tb v_ty S R → v_Op S → (∀ S', v_Tb v_ty S' R → v_Op S' → v_Fr [(165, 0, 5), (166, 0, 12)] S R S' R → Q none S' R) → w_T L xs (d + 4) m_X12_laysPlaces 47 [(2, .int (more')), (3, .int mm), (5, .int (k')), (4, .int (g')), (0, .ref 100), (1, .int nn)] [] S R Q := by
  intro μ
  induction μ with
  | zero =>
    intro S more' mm g' k' hmu hmo hT hO hq
    rcases hmo with rfl | rfl
    · refine w_st rfl (fun _ => rfl) ?_
      show w_T L xs (d + 4) m_X12_laysPlaces 48 [(2, .int (Int32.ofInt 1)), (3, .int mm), (5, .int (k')), (4, .int (g')), (0, .ref 100), (1, .int nn)] [.int (Int32.ofInt 1)] S R Q
      refine w_st rfl (fun _ => rfl) ?_
      refine w_st rfl (fun _ => rfl) ?_
      refine w_st rfl (fun _ => rfl) ?_
      refine w_st rfl (fun _ => rfl) ?_
      refine w_st rfl (fun _ => rfl) ?_
      show w_T L xs (d + 4) m_X12_laysPlaces 55 [(3, .int (Int32.ofInt 0)), (2, .int (Int32.ofInt 0)), (5, .int (k')), (4, .int (g')), (0, .ref 100), (1, .int nn)] [] S R Q
      refine h_lpf hH hA hK R nn n1 hn (v_mu 12 (S 166)) nn.toInt.toNat 0 S _ _ _ (by omega) hT hO (Or.inr ⟨rfl, Nat.le_refl _⟩) (fun S1 m1 m2 g1 k1 q1 q2 q3 q4 => ?_)
      rcases q4 with ⟨e, h⟩ | e
      · omega
      · subst e
        refine w_st rfl (fun _ => rfl) ?_
        show w_T L xs (d + 4) m_X12_laysPlaces 48 [(2, .int (Int32.ofInt 0)), (3, .int m2), (5, .int k1), (4, .int g1), (0, .ref 100), (1, .int nn)] [.int (Int32.ofInt 0)] S1 R Q
        refine w_st rfl (fun _ => rfl) ?_
        show w_T L xs (d + 4) m_X12_laysPlaces 150 [(2, .int (Int32.ofInt 0)), (3, .int m2), (5, .int k1), (4, .int g1), (0, .ref 100), (1, .int nn)] [] S1 R Q
        refine w_ret rfl rfl ?_
        exact hq S1 q1 q2 q3
    · refine w_st rfl (fun _ => rfl) ?_
      show w_T L xs (d + 4) m_X12_laysPlaces 48 [(2, .int (Int32.ofInt 0)), (3, .int mm), (5, .int (k')), (4, .int (g')), (0, .ref 100), (1, .int nn)] [.int (Int32.ofInt 0)] S R Q
      refine w_st rfl (fun _ => rfl) ?_
      show w_T L xs (d + 4) m_X12_laysPlaces 150 [(2, .int (Int32.ofInt 0)), (3, .int mm), (5, .int (k')), (4, .int (g')), (0, .ref 100), (1, .int nn)] [] S R Q
      refine w_ret rfl rfl ?_
      exact hq S hT hO (v_Fr_rf _ _ _)
  | succ μ ih =>
    intro S more' mm g' k' hmu hmo hT hO hq
    rcases hmo with rfl | rfl
    · refine w_st rfl (fun _ => rfl) ?_
      show w_T L xs (d + 4) m_X12_laysPlaces 48 [(2, .int (Int32.ofInt 1)), (3, .int mm), (5, .int (k')), (4, .int (g')), (0, .ref 100), (1, .int nn)] [.int (Int32.ofInt 1)] S R Q
      refine w_st rfl (fun _ => rfl) ?_
      refine w_st rfl (fun _ => rfl) ?_
      refine w_st rfl (fun _ => rfl) ?_
      refine w_st rfl (fun _ => rfl) ?_
      refine w_st rfl (fun _ => rfl) ?_
      show w_T L xs (d + 4) m_X12_laysPlaces 55 [(3, .int (Int32.ofInt 0)), (2, .int (Int32.ofInt 0)), (5, .int (k')), (4, .int (g')), (0, .ref 100), (1, .int nn)] [] S R Q
      refine h_lpf hH hA hK R nn n1 hn (v_mu 12 (S 166)) nn.toInt.toNat 0 S _ _ _ (by omega) hT hO (Or.inr ⟨rfl, Nat.le_refl _⟩) (fun S1 m1 m2 g1 k1 q1 q2 q3 q4 => ?_)
      rcases q4 with ⟨e, h⟩ | e
      · exact ih S1 m1 m2 g1 k1 (by omega) (Or.inl e) q1 q2 (fun S2 a1 a2 a3 => hq S2 a1 a2 (v_Fr_tr q3 a3))
      · subst e
        refine w_st rfl (fun _ => rfl) ?_
        show w_T L xs (d + 4) m_X12_laysPlaces 48 [(2, .int (Int32.ofInt 0)), (3, .int m2), (5, .int k1), (4, .int g1), (0, .ref 100), (1, .int nn)] [.int (Int32.ofInt 0)] S1 R Q
        refine w_st rfl (fun _ => rfl) ?_
        show w_T L xs (d + 4) m_X12_laysPlaces 150 [(2, .int (Int32.ofInt 0)), (3, .int m2), (5, .int k1), (4, .int g1), (0, .ref 100), (1, .int nn)] [] S1 R Q
        refine w_ret rfl rfl ?_
        exact hq S1 q1 q2 q3
    · refine w_st rfl (fun _ => rfl) ?_
      show w_T L xs (d + 4) m_X12_laysPlaces 48 [(2, .int (Int32.ofInt 0)), (3, .int mm), (5, .int (k')), (4, .int (g')), (0, .ref 100), (1, .int nn)] [.int (Int32.ofInt 0)] S R Q
      refine w_st rfl (fun _ => rfl) ?_
      show w_T L xs (d + 4) m_X12_laysPlaces 150 [(2, .int (Int32.ofInt 0)), (3, .int mm), (5, .int (k')), (4, .int (g')), (0, .ref 100), (1, .int nn)] [] S R Q
      refine w_ret rfl rfl ?_
      exact hq S hT hO (v_Fr_rf _ _ _)
theorem h_lpA (R : v_Rf) (nn : Int32) : ∀ (c k : Nat) (S : v_Sf), k + c = 5 → v_Tb v_ty S R → v_Op S → (∀ S', v_Tb v_ty S' R → v_Op S' → v_Fr [(165, 0, 5), (166, 0, 12)] S R S' R → w_T L xs (d + 4) m_X12_laysPlaces 20 [(2, .int (Int32.ofInt 5)), (0, .ref 100), (1, .int nn)] [] S' R Q) → w_T L xs (d + 4) m_X12_laysPlaces 2 [(2, .int (Int32.ofInt (k : Int))), (0, .ref 100), (1, .int nn)] [] S R Q := by
  have e5 : (Int32.ofInt 5).toInt = 5 := by decide
  have f1 : ∀ j, v_frz 165 j j = false := fun j => rfl
  have c1 : ∀ j, j ≤ 5 → v_md [(165, 0, 5), (166, 0, 12)] 165 j j = true := fun j hj => v_md_mono (lo := 0) (hi := 5) (by decide +kernel) (Nat.zero_le _) hj
  intro c
  induction c with
  | zero =>
    intro k S hk hT hO K
    obtain rfl : k = 5 := by omega
    refine w_st rfl (fun _ => rfl) ?_
    refine w_st rfl (fun _ => rfl) ?_
    show w_T L xs (d + 4) m_X12_laysPlaces 4 [(2, .int (Int32.ofInt ((5 : Nat) : Int))), (0, .ref 100), (1, .int nn)] [.int (Int32.ofInt 5), .int (Int32.ofInt ((5 : Nat) : Int))] S R Q
    refine w_st rfl (fun _ => rfl) ?_
    show w_T L xs (d + 4) m_X12_laysPlaces 20 [(2, .int (Int32.ofInt ((5 : Nat) : Int))), (0, .ref 100), (1, .int nn)] [] S R Q
    exact K S hT hO (v_Fr_rf _ _ _)
  | succ c ih =>
    intro k S hk hT hO K
    have ek := w_nat (k := k) (by omega)
    refine w_st rfl (fun _ => rfl) ?_
    refine w_st rfl (fun _ => rfl) ?_
    show w_T L xs (d + 4) m_X12_laysPlaces 4 [(2, .int (Int32.ofInt (k : Int))), (0, .ref 100), (1, .int nn)] [.int (Int32.ofInt 5), .int (Int32.ofInt (k : Int))] S R Q
    refine w_br (P := (Int32.ofInt 5) ≤ (Int32.ofInt (k : Int))) rfl (fun _ => rfl) (fun h4 => ?_) (fun h4 => ?_)
    · exfalso; rw [q_le32, e5, ek] at h4; omega
    · refine w_st rfl (fun _ => rfl) ?_
      show w_T L xs (d + 4) m_X12_laysPlaces 8 [(2, .int (Int32.ofInt (k : Int))), (0, .ref 100), (1, .int nn)] [.ref 100] S R Q
      refine w_getr rfl v_tyM rfl ?_
      refine w_st rfl (fun _ => rfl) ?_
      refine w_st rfl (fun _ => rfl) ?_
      show w_T L xs (d + 4) m_X12_laysPlaces 13 [(2, .int (Int32.ofInt (k : Int))), (0, .ref 100), (1, .int nn)] [.int (Int32.ofInt (-1)), .int (Int32.ofInt (k : Int)), .ref 166] S R Q
      refine w_iast rfl rfl (by rw [ek]; omega) (by rw [ek]; omega) ?_
      refine w_st rfl (fun _ => rfl) ?_
      refine w_st rfl (fun _ => rfl) ?_
      show w_T L xs (d + 4) m_X12_laysPlaces 2 [(2, .int ((Int32.ofInt (k : Int)) + Int32.ofInt 1)), (0, .ref 100), (1, .int nn)] [] (v_ur S 165 (upd (S 165) (Int32.ofInt (k : Int)).toInt.toNat (Int32.ofInt (-1)))) R Q
      rw [w_inc]
      exact ih (k + 1) _ (by omega) (w_TbR hT (a := 165) rfl (by decide) (by decide)) (w_Op_ur (f1 _) hO) (fun S' a1 a2 a3 => K S' a1 a2 (v_Fr_tr (v_Fr_ur _ _ _ (c1 _ (by rw [ek]; omega))) a3))
theorem h_lpB (R : v_Rf) (nn : Int32) (hn : nn.toInt ≤ 6) : ∀ (c k : Nat) (S : v_Sf), ((k + c : Nat) : Int) = nn.toInt → v_Tb v_ty S R → v_Op S → (∀ S' (u : Int32), v_Tb v_ty S' R → v_Op S' → v_Fr [(165, 0, 5), (166, 0, 12)] S R S' R → w_T L xs (d + 4) m_X12_laysPlaces 45 [(2, .int u), (0, .ref 100), (1, .int nn)] [] S' R Q) → w_T L xs (d + 4) m_X12_laysPlaces 22 [(2, .int (Int32.ofInt (k : Int))), (0, .ref 100), (1, .int nn)] [] S R Q := by
  have f2 : ∀ j, v_frz 166 j j = false := fun j => rfl
  have c2 : ∀ j, j ≤ 12 → v_md [(165, 0, 5), (166, 0, 12)] 166 j j = true := fun j hj => v_md_mono (lo := 0) (hi := 12) (by decide +kernel) (Nat.zero_le _) hj
  intro c
  induction c with
  | zero =>
    intro k S hk hT hO K
    have ek := w_nat (k := k) (by omega)
    refine w_st rfl (fun _ => rfl) ?_
    refine w_st rfl (fun _ => rfl) ?_
    show w_T L xs (d + 4) m_X12_laysPlaces 24 [(2, .int (Int32.ofInt (k : Int))), (0, .ref 100), (1, .int nn)] [.int nn, .int (Int32.ofInt (k : Int))] S R Q
    refine w_br (P := nn ≤ (Int32.ofInt (k : Int))) rfl (fun _ => rfl) (fun h24 => ?_) (fun h24 => ?_)
    · exact K S _ hT hO (v_Fr_rf _ _ _)
    · exfalso; rw [q_le32, ek] at h24; omega
  | succ c ih =>
    intro k S hk hT hO K
    have ek := w_nat (k := k) (by omega)
    have ekn : (Int32.ofInt (k : Int)).toInt.toNat = k := by rw [ek]; omega
    have tS : v_TbC S R 152 _ := hT 152 _ rfl
    have gb := tS k (by omega)
    refine w_st rfl (fun _ => rfl) ?_
    refine w_st rfl (fun _ => rfl) ?_
    show w_T L xs (d + 4) m_X12_laysPlaces 24 [(2, .int (Int32.ofInt (k : Int))), (0, .ref 100), (1, .int nn)] [.int nn, .int (Int32.ofInt (k : Int))] S R Q
    refine w_br (P := nn ≤ (Int32.ofInt (k : Int))) rfl (fun _ => rfl) (fun h24 => ?_) (fun h24 => ?_)
    · exfalso; rw [q_le32, ek] at h24; omega
    · refine w_st rfl (fun _ => rfl) ?_
      show w_T L xs (d + 4) m_X12_laysPlaces 28 [(2, .int (Int32.ofInt (k : Int))), (0, .ref 100), (1, .int nn)] [.ref 100] S R Q
      refine w_getr rfl v_tyM rfl ?_
      refine w_st rfl (fun _ => rfl) ?_
      show w_T L xs (d + 4) m_X12_laysPlaces 32 [(2, .int (Int32.ofInt (k : Int))), (0, .ref 100), (1, .int nn)] [.ref 100, .ref 167] S R Q
      refine w_getr rfl v_tyM rfl ?_
      refine w_st rfl (fun _ => rfl) ?_
      show w_T L xs (d + 4) m_X12_laysPlaces 36 [(2, .int (Int32.ofInt (k : Int))), (0, .ref 100), (1, .int nn)] [.int (Int32.ofInt (k : Int)), .ref 153, .ref 167] S R Q
      refine w_iald rfl rfl (by rw [ek]; omega) (by rw [ek]; omega) ?_
      rw [ekn]
      refine w_st rfl (fun _ => rfl) ?_
      show w_T L xs (d + 4) m_X12_laysPlaces 38 [(2, .int (Int32.ofInt (k : Int))), (0, .ref 100), (1, .int nn)] [.int (Int32.ofInt 0), .int (S 152 k), .ref 167] S R Q
      refine w_iast rfl rfl (by omega) (by omega) ?_
      refine w_st rfl (fun _ => rfl) ?_
      refine w_st rfl (fun _ => rfl) ?_
      show w_T L xs (d + 4) m_X12_laysPlaces 22 [(2, .int ((Int32.ofInt (k : Int)) + Int32.ofInt 1)), (0, .ref 100), (1, .int nn)] [] (v_ur S 166 (upd (S 166) (S 152 k).toInt.toNat (Int32.ofInt 0))) R Q
      rw [w_inc]
      exact ih (k + 1) _ (by omega) (w_TbR hT (a := 166) rfl (by decide) (by decide)) (w_Op_ur (f2 _) hO) (fun S' u a1 a2 a3 => K S' u a1 a2 (v_Fr_tr (v_Fr_ur _ _ _ (c2 _ (by omega))) a3))
theorem hr_X12_laysPlaces {L : Nat} {xs : Nat → Int32} (ih : ∀ x, ∀ w ∈ v_rw x, w.1 < rw_245.1 → v_Met L xs v_ty v_Op x w) : v_Met L xs v_ty v_Op 277 rw_245 := by
  have hH := ih 273 rw_241 (List.mem_of_getElem? (i := 0) rfl) (Nat.le_of_ble_eq_true rfl)
  have hA := ih 276 rw_244 (List.mem_of_getElem? (i := 0) rfl) (Nat.le_of_ble_eq_true rfl)
  have hK := ih 274 rw_242 (List.mem_of_getElem? (i := 0) rfl) (Nat.le_of_ble_eq_true rfl)
  intro M hM ac S R ha hT hO
  rw [mt_X12_laysPlaces] at hM
  cases hM
  match ac, ha with
  | [r0, w1], ⟨h0, ⟨nn, hg, n1, n2⟩, _⟩ =>
  have h0 : r0 = .ref 100 := h0
  subst h0 hg
  have n1 : 1 ≤ nn.toInt := n1
  have n2 : nn.toInt ≤ 6 := n2
  show w_T L xs 4 m_X12_laysPlaces 0 (lv_args 0 [.ref 100, .int nn]) [] S R (fun r S' R' => v_Tb v_ty S' R' ∧ v_Op S' ∧ v_rk1 none r ∧ v_Fr [(165, 0, 5), (166, 0, 12)] S R S' R')
  generalize hQ : (fun (r : Option Value) (S' : v_Sf) (R' : v_Rf) => v_Tb v_ty S' R' ∧ v_Op S' ∧ v_rk1 none r ∧ v_Fr [(165, 0, 5), (166, 0, 12)] S R S' R') = Q
  refine w_st rfl (fun _ => rfl) ?_
  refine w_st rfl (fun _ => rfl) ?_
  show w_T L xs 4 m_X12_laysPlaces 2 [(2, .int (Int32.ofInt 0)), (0, .ref 100), (1, .int nn)] [] S R Q
  refine h_lpA (d := 0) R nn 5 0 S rfl hT hO (fun S1 a1 a2 a3 => ?_)
  refine w_st rfl (fun _ => rfl) ?_
  refine w_st rfl (fun _ => rfl) ?_
  show w_T L xs 4 m_X12_laysPlaces 22 [(2, .int (Int32.ofInt 0)), (0, .ref 100), (1, .int nn)] [] S1 R Q
  refine h_lpB (d := 0) R nn n2 nn.toInt.toNat 0 S1 (by omega) a1 a2 (fun S2 u b1 b2 b3 => ?_)
  refine w_st rfl (fun _ => rfl) ?_
  refine w_st rfl (fun _ => rfl) ?_
  refine w_st rfl (fun _ => rfl) ?_
  show w_T L xs 4 m_X12_laysPlaces 48 [(2, .int (Int32.ofInt 1)), (0, .ref 100), (1, .int nn)] [.int (Int32.ofInt 1)] S2 R Q
  refine w_st rfl (fun _ => rfl) ?_
  refine w_st rfl (fun _ => rfl) ?_
  refine w_st rfl (fun _ => rfl) ?_
  refine w_st rfl (fun _ => rfl) ?_
  refine w_st rfl (fun _ => rfl) ?_
  show w_T L xs 4 m_X12_laysPlaces 55 [(3, .int (Int32.ofInt 0)), (2, .int (Int32.ofInt 0)), (0, .ref 100), (1, .int nn)] [] S2 R Q
  have hz : (0 : Int) < nn.toInt := by omega
  refine h_lpbA (d := 0) hH hA hK S2 R nn _ nn nn 0 hz n2 b1 b2 (fun S3 mo g3 k3 c1 c2 c3 c4 => ?_)
  refine h_lpf (d := 0) hH hA hK R nn n1 n2 (v_mu 12 (S2 166)) (nn.toInt.toNat - 1) 1 S3 mo g3 k3 (by omega) c1 c2 ?_ (fun S4 m4 mm g4 k4 e1 e2 e3 e4 => ?_)
  · rcases c4 with ⟨e, h⟩ | ⟨e, h⟩
    · exact Or.inl ⟨e, h⟩
    · exact Or.inr ⟨e, by rw [h]; exact Nat.le_refl _⟩
  · refine h_lpw (d := 0) hH hA hK R nn n1 n2 (v_mu 12 (S4 166)) S4 m4 mm g4 k4 (Nat.le_refl _) (e4.imp (fun h => h.1) id) e1 e2 (fun S5 f1 f2 f3 => ?_)
    rw [← hQ]
    exact ⟨f1, f2, rfl, v_Fr_tr a3 (v_Fr_tr b3 (v_Fr_tr c3 (v_Fr_tr e3 f3)))⟩
end LP
end Prt38
section Prt38b
/-! the law: rules for the script, exact answers, the loop -/
noncomputable def v_fsC : List v_Ft := [.inr (.inl 46), .inr (.inl 67), .inr (.inl 33), .inr (.inl 51), .inr (.inl 76), .inr (.inl 77), .inr (.inl 87), .inr (.inl 95), .inr (.inl 48), .inr (.inl 2), .inr (.inl 12), .inr (.inl 22), .inr (.inl 32), .inl ((-2147483648), 2147483647), .inl (0, 1)]
theorem v_tyC : v_ty 0 = some (.inr (.inr (11, v_fsC))) := rfl
section WS
variable {L : Nat} {xs : Nat → Int32} {d : Nat} {M : g_M} {pc : Nat} {lc : g_Lc} {S : v_Sf} {R : v_Rf} {Q : Option Value → v_Sf → v_Rf → Prop}
theorem w_sal {len x y : Nat} {z : Int} {t : List Value} (hen : M.2.2.2.2.2 pc = some ((.arraylength, len), x, y, z)) (k : w_T L xs d M (pc + len) lc (.int (Int32.ofNat L) :: t) S R Q) : w_T L xs d M pc lc (.ref 0 :: t) S R Q := w_one hen (g_st_hp (en := ((.arraylength, len), x, y, z)) rfl rfl rfl (q := (.int (Int32.ofNat L) :: t, v_mk v_ty S R)) rfl) k
theorem w_sld {len x y : Nat} {z : Int} {t : List Value} {i : Int32} (hen : M.2.2.2.2.2 pc = some ((.iaload, len), x, y, z)) (h1 : 0 ≤ i.toInt) (h2 : i.toInt < (L : Int)) (k : w_T L xs d M (pc + len) lc (.int (xs i.toInt.toNat) :: t) S R Q) : w_T L xs d M pc lc (.int i :: .ref 0 :: t) S R Q := by
  obtain ⟨o1, o2⟩ := q_in32 h1 h2
  refine w_one hen (g_st_hp (en := ((.iaload, len), x, y, z)) rfl rfl rfl (q := (.int (xs i.toInt.toNat) :: t, v_mk v_ty S R)) ?_) k
  simp only [g_hp, g_ia, o1, cond_false, o2]
theorem w_ts {df lo hi : Int} {offs : Array Int} {len x y : Nat} {z : Int} {t : List Value} {v : Int32} (hen : M.2.2.2.2.2 pc = some ((.tableswitch df lo hi offs, len), x, y, z)) (hhi : hi = lo + (offs.toList.length : Int) - 1) {nd : Nat} (hnd : (pc : Int) + df = (nd : Int)) (kc : ∀ (k : Nat) (o : Int), offs.toList[k]? = some o → v.toInt = lo + (k : Int) → ∃ n : Nat, (pc : Int) + o = (n : Int) ∧ w_T L xs d M n lc t S R Q) (kd : w_T L xs d M nd lc t S R Q) : w_T L xs d M pc lc (.int v :: t) S R Q := by
  have tg : ∀ (o : Int) (n : Nat), (pc : Int) + o = (n : Int) → ∀ rr, g_tg pc (some o) rr = some (n, rr) := by
    intro o n ho rr
    unfold g_tg
    dsimp only
    rw [ho]
  by_cases hc : v.toInt < lo ∨ hi < v.toInt
  · refine w_one hen (g_st_jmp (en := ((.tableswitch df lo hi offs, len), x, y, z)) rfl rfl (q := (nd, t)) ?_) kd
    simp only [g_jmp, if_pos hc]
    exact tg df nd hnd t
  · have hl : (v.toInt - lo).toNat < offs.toList.length := by omega
    obtain ⟨n, hn, k⟩ := kc (v.toInt - lo).toNat offs.toList[(v.toInt - lo).toNat] (List.getElem?_eq_getElem hl) (by omega)
    refine w_one hen (g_st_jmp (en := ((.tableswitch df lo hi offs, len), x, y, z)) rfl rfl (q := (n, t)) ?_) k
    have g2 : offs[(v.toInt - lo).toNat]? = some offs.toList[(v.toInt - lo).toNat] := by rw [← Array.getElem?_toList, List.getElem?_eq_getElem hl]
    simp only [g_jmp, if_neg hc, g2]
    exact tg _ n hn t
end WS
theorem lg_n {a b : Int64} : lg_cmp a b < 0 ↔ a.toInt < b.toInt := by
  have e1 : a > b ↔ b.toInt < a.toInt := Int64.lt_iff_toInt_lt
  have e2 : a = b ↔ a.toInt = b.toInt := ⟨fun h => by rw [h], Int64.toInt_inj.mp⟩
  unfold lg_cmp
  by_cases h1 : a > b
  · rw [if_pos h1]
    rw [e1] at h1
    exact ⟨fun h => absurd h (by decide), fun h => by omega⟩
  · rw [if_neg h1]
    rw [e1] at h1
    by_cases h2 : a = b
    · rw [if_pos h2]
      rw [e2] at h2
      exact ⟨fun h => absurd h (by decide), fun h => by omega⟩
    · rw [if_neg h2]
      rw [e2] at h2
      exact ⟨fun _ => by omega, fun _ => by decide⟩
theorem lg_p {a b : Int64} : 0 < lg_cmp a b ↔ b.toInt < a.toInt := by
  have e1 : a > b ↔ b.toInt < a.toInt := Int64.lt_iff_toInt_lt
  unfold lg_cmp
  by_cases h1 : a > b
  · rw [if_pos h1]
    rw [e1] at h1
    exact ⟨fun _ => h1, fun _ => by decide⟩
  · rw [if_neg h1]
    rw [e1] at h1
    by_cases h2 : a = b
    · rw [if_pos h2]
      exact ⟨fun h => absurd h (by decide), fun h => absurd h h1⟩
    · rw [if_neg h2]
      exact ⟨fun h => absurd h (by decide), fun h => absurd h h1⟩
noncomputable abbrev m_X11_within : g_M := (g_cn 11, yX11_within, cX11_within, 2, (some .boolean), g_look2 ttX11_within)
set_option maxRecDepth 20000 in
theorem mt_X11_within : g_mt 147 = some m_X11_within := rfl
noncomputable abbrev m_X12_lies : g_M := (g_cn 12, yX12_lies, cX12_lies, 6, (some .boolean), g_look2 ttX12_lies)
set_option maxRecDepth 20000 in
theorem mt_X12_lies : g_mt 160 = some m_X12_lies := rfl
section HA
variable {L : Nat} {xs : Nat → Int32} {d : Nat} {S : v_Sf} {R : v_Rf} {Q : Option Value → v_Sf → v_Rf → Prop}
theorem h_lies (a b c : Int64) (hq : Q (some (.int (if b.toInt ≤ a.toInt ∧ a.toInt ≤ c.toInt then 1 else 0))) S R) : w_T L xs d m_X12_lies 0 (lv_args 0 [.long a, .long b, .long c]) [] S R Q := by
  refine w_st rfl (fun _ => rfl) ?_
  refine w_st rfl (fun _ => rfl) ?_
  refine w_st rfl (fun _ => rfl) ?_
  show w_T L xs d m_X12_lies 3 [(0, .long a), (2, .long b), (4, .long c)] [.int (lg_cmp a b)] S R Q
  refine w_br (P := (lg_cmp a b) < 0) rfl (fun _ => rfl) (fun h3 => ?_) (fun h3 => ?_)
  · rw [if_neg (fun h => by rw [lg_n] at h3; omega)] at hq
    refine w_st rfl (fun _ => rfl) ?_
    show w_T L xs d m_X12_lies 18 [(0, .long a), (2, .long b), (4, .long c)] [.int (Int32.ofInt 0)] S R Q
    refine w_ret rfl (by rfl) ?_
    exact hq
  · refine w_st rfl (fun _ => rfl) ?_
    refine w_st rfl (fun _ => rfl) ?_
    refine w_st rfl (fun _ => rfl) ?_
    show w_T L xs d m_X12_lies 10 [(0, .long a), (2, .long b), (4, .long c)] [.int (lg_cmp a c)] S R Q
    refine w_br (P := 0 < (lg_cmp a c)) rfl (fun _ => rfl) (fun h10 => ?_) (fun h10 => ?_)
    · rw [if_neg (fun h => by rw [lg_p] at h10; omega)] at hq
      refine w_st rfl (fun _ => rfl) ?_
      show w_T L xs d m_X12_lies 18 [(0, .long a), (2, .long b), (4, .long c)] [.int (Int32.ofInt 0)] S R Q
      refine w_ret rfl (by rfl) ?_
      exact hq
    · rw [if_pos (by rw [lg_n] at h3; rw [lg_p] at h10; omega)] at hq
      refine w_st rfl (fun _ => rfl) ?_
      refine w_st rfl (fun _ => rfl) ?_
      show w_T L xs d m_X12_lies 18 [(0, .long a), (2, .long b), (4, .long c)] [.int (Int32.ofInt 1)] S R Q
      refine w_ret rfl (by rfl) ?_
      exact hq
end HA
end Prt38b
