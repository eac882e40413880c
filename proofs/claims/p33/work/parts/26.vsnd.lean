/-! heads of loops; the machine is sound -/
theorem v_veq_ok {v w : q_V} (h : v_veq v w = true) : v = w := by
  unfold v_veq at h
  split at h
  · rw [q_nb_ok h]
  · rw [q_nb_ok h]
  · rfl
  · rw [q_beq h]
  · cases h
theorem v_rv_take {ρ : List Int} {n : Nat} {v : q_V} {w0 w : Value} (h1 : q_rv (ρ.take n) v w0) (h2 : q_rv ρ v w) : q_rv (ρ.take n) v w := by
  have key : ∀ (a : q_N) (x y : Int), q_r (ρ.take n) a x → q_r ρ a y → q_r (ρ.take n) a y := by
    intro a x y g1 g2
    cases a with
    | inl c => exact g2
    | inr k =>
      have g1 : (ρ.take n)[k]? = some x := g1
      have g2 : ρ[k]? = some y := g2
      have hk := (List.getElem?_eq_some_iff.mp g1).1
      show (ρ.take n)[k]? = some y
      rw [List.getElem?_take_of_lt (by simp at hk; omega)]
      exact g2
  match v, h1, h2 with
  | .inl a, ⟨x, _, g1⟩, ⟨y, h3, g2⟩ => exact ⟨y, h3, key a _ _ g1 g2⟩
  | .inr (.inl a), ⟨x, _, g1⟩, ⟨y, h3, g2⟩ => exact ⟨y, h3, key a _ _ g1 g2⟩
  | .inr (.inr o), _, h2 => exact h2
theorem v_chk0_ok {ρ : List Int} {env : q_S} (he : q_re ρ env) {ls : q_L} {lc : g_Lc} (r1 : v_rl ρ ls lc) : ∀ {p : v_Pat}, v_chk0 env ls p = true → ∃ gv, v_alg p lc gv
  | [], _ => ⟨[], trivial⟩
  | (i, none) :: p, h => v_chk0_ok he r1 (p := p) h
  | (i, some b) :: p, h => by
    have h : (match q_gl ls i with
      | some (.inl a) => v_in (q_iv env a) b.1 b.2 && v_chk0 env ls p
      | _ => false) = true := h
    split at h
    · rename_i a ha
      rw [Bool.and_eq_true] at h
      obtain ⟨gs, hg⟩ := v_chk0_ok he r1 h.2
      obtain ⟨w, g1, u, rfl, g2⟩ := r1 i _ ha
      have := v_in_ok h.1 (q_iv_ok he g2)
      exact ⟨u.toInt :: gs, ⟨u, g1, rfl⟩, this.1, this.2, hg⟩
    · cases h
theorem v_chk1_ok {ρ : List Int} {n : Nat} {env : q_S} (he : q_re ρ env) {ls0 ls : q_L} {lc : g_Lc} (r1 : v_rl ρ ls lc) : ∀ {p : v_Pat}, (∀ (i : Nat) (v : q_V), (i, none) ∈ p → q_gl ls0 i = some v → ∃ w, q_rv (ρ.take n) v w) → v_chk1 env ls0 ls p = true → (∃ gv, v_alg p lc gv) ∧ v_sm p ls0 (ρ.take n) lc
  | [], _, _ => ⟨⟨[], trivial⟩, fun i v h => by cases h⟩
  | (i, none) :: p, h0, h => by
    have h : (match q_gl ls0 i, q_gl ls i with
      | some v, some w => v_veq v w && v_chk1 env ls0 ls p
      | none, _ => v_chk1 env ls0 ls p
      | _, _ => false) = true := h
    have h1 : ∀ (i : Nat) (v : q_V), (i, none) ∈ p → q_gl ls0 i = some v → ∃ w, q_rv (ρ.take n) v w := fun i v hm => h0 i v (List.mem_cons_of_mem _ hm)
    split at h
    · rename_i v w hv hw
      rw [Bool.and_eq_true] at h
      have e := v_veq_ok h.1
      subst e
      obtain ⟨g1, g2⟩ := v_chk1_ok he r1 h1 h.2
      refine ⟨g1, fun i' v' hm hv' => ?_⟩
      rcases List.mem_cons.mp hm with hm | hm
      · cases hm
        rw [hv] at hv'
        cases hv'
        obtain ⟨w1, k1, k2⟩ := r1 i _ hw
        obtain ⟨w0, k3⟩ := h0 i v List.mem_cons_self hv
        exact ⟨w1, k1, v_rv_take k3 k2⟩
      · exact g2 i' v' hm hv'
    · rename_i hn
      obtain ⟨g1, g2⟩ := v_chk1_ok he r1 h1 h
      refine ⟨g1, fun i' v' hm hv' => ?_⟩
      rcases List.mem_cons.mp hm with hm | hm
      · cases hm
        rw [hn] at hv'
        cases hv'
      · exact g2 i' v' hm hv'
    · cases h
  | (i, some b) :: p, h0, h => by
    have h : (match q_gl ls i with
      | some (.inl a) => v_in (q_iv env a) b.1 b.2 && v_chk1 env ls0 ls p
      | _ => false) = true := h
    have h1 : ∀ (i : Nat) (v : q_V), (i, none) ∈ p → q_gl ls0 i = some v → ∃ w, q_rv (ρ.take n) v w := fun i v hm => h0 i v (List.mem_cons_of_mem _ hm)
    split at h
    · rename_i a ha
      rw [Bool.and_eq_true] at h
      obtain ⟨⟨gs, hg⟩, g2⟩ := v_chk1_ok he r1 h1 h.2
      obtain ⟨w, g1, u, rfl, g3⟩ := r1 i _ ha
      have := v_in_ok h.1 (q_iv_ok he g3)
      refine ⟨⟨u.toInt :: gs, ⟨u, g1, rfl⟩, this.1, this.2, hg⟩, fun i' v' hm hv' => ?_⟩
      rcases List.mem_cons.mp hm with hm | hm
      · cases hm
      · exact g2 i' v' hm hv'
    · cases h
theorem v_gp_ok {ci : Nat} {lc : g_Lc} : ∀ {p : v_Pat} {gv : List Int} {n g : Nat}, v_alg p lc gv → v_gp p ci n = some g → n ≤ g ∧ ∃ (x : Int32) (b : Int × Int), g_get lc ci = some (.int x) ∧ gv[g - n]? = some x.toInt ∧ (v_gen p)[g - n]? = some (b.1, b.2, 0, .inl 0, .inl 0) ∧ b.1 ≤ x.toInt ∧ x.toInt ≤ b.2
  | [], gv, n, g, _, h => by cases h
  | (i, none) :: p, gv, n, g, ha, h => v_gp_ok (p := p) ha h
  | (i, some b) :: p, [], n, g, ha, h => ha.elim
  | (i, some b) :: p, y :: gs, n, g, ha, h => by
    obtain ⟨⟨u, a1, a2⟩, a3, a4, a5⟩ := ha
    have h : (bif Nat.beq i ci then some n else v_gp p ci (Nat.succ n)) = some g := h
    cases hb : Nat.beq i ci with
    | true =>
      rw [hb] at h
      cases h
      have e := q_beq hb
      subst e
      subst a2
      refine ⟨Nat.le_refl _, u, b, a1, ?_, ?_, a3, a4⟩
      · rw [Nat.sub_self]; rfl
      · rw [Nat.sub_self]; rfl
    | false =>
      rw [hb] at h
      obtain ⟨g1, u2, b2, g2, g3, g4, g5⟩ := v_gp_ok a5 h
      refine ⟨by omega, u2, b2, g2, ?_, ?_, g5⟩
      · rw [show g - n = (g - Nat.succ n) + 1 by omega]
        simpa using g3
      · rw [show g - n = (g - Nat.succ n) + 1 by omega]
        show ((b.1, b.2, 0, .inl 0, .inl 0) :: v_gen p)[g - Nat.succ n + 1]? = _
        simpa using g4
theorem v_mkl_ok {ρ : List Int} {ls : q_L} {lc : g_Lc} : ∀ {p : v_Pat} {gv : List Int} {n : Nat}, v_alg p lc gv → (∀ (i : Nat) (v : q_V), (i, none) ∈ p → q_gl ls i = some v → ∃ w, g_get lc i = some w ∧ q_rv ρ v w) → (∀ (k : Nat) (x : Int), gv[k]? = some x → ρ[n + k]? = some x) → v_rl ρ (v_mkl ls p n) lc
  | [], gv, n, _, _, _ => fun i v h => by cases h
  | (i, none) :: p, gv, n, ha, hs, hρ => by
    have ih := v_mkl_ok (ls := ls) (p := p) (n := n) ha (fun i v hm => hs i v (List.mem_cons_of_mem _ hm)) hρ
    intro j u hj
    have hj : q_gl (match q_gl ls i with
      | some v => (i, v) :: v_mkl ls p n
      | none => v_mkl ls p n) j = some u := hj
    split at hj
    · rename_i v hv
      rw [v_gl_cons] at hj
      cases hb : Nat.beq i j with
      | true =>
        rw [hb] at hj
        cases hj
        have e := q_beq hb
        subst e
        exact hs i _ List.mem_cons_self hv
      | false =>
        rw [hb] at hj
        exact ih j u hj
    · exact ih j u hj
  | (i, some b) :: p, [], n, ha, _, _ => ha.elim
  | (i, some b) :: p, y :: gs, n, ha, hs, hρ => by
    obtain ⟨⟨x, a1, a2⟩, a3, a4, a5⟩ := ha
    have ih := v_mkl_ok (ls := ls) (p := p) (n := Nat.succ n) a5 (fun i v hm => hs i v (List.mem_cons_of_mem _ hm)) (fun k x hk => by
      rw [show Nat.succ n + k = n + (k + 1) by omega]
      exact hρ (k + 1) x (by simpa using hk))
    intro j u hj
    have hj : q_gl ((i, .inl (.inr n)) :: v_mkl ls p (Nat.succ n)) j = some u := hj
    rw [v_gl_cons] at hj
    cases hb : Nat.beq i j with
    | true =>
      rw [hb] at hj
      cases hj
      have e := q_beq hb
      subst e
      refine ⟨_, a1, x, rfl, ?_⟩
      show ρ[n]? = some x.toInt
      rw [a2]
      exact hρ 0 y rfl
    | false =>
      rw [hb] at hj
      exact ih j u hj
theorem v_gen_ok {lc : g_Lc} : ∀ {p : v_Pat} {gv : List Int}, v_alg p lc gv → ∀ (k : Nat) (e : q_E), (v_gen p)[k]? = some e → ∃ x, gv[k]? = some x ∧ e.1 ≤ x ∧ x ≤ e.2.1 ∧ e.2.2.1 = 0
  | [], gv, _, k, e, h => by
    have h : ([] : q_S)[k]? = some e := h
    simp at h
  | (i, none) :: p, gv, ha, k, e, h => v_gen_ok (p := p) ha k e h
  | (i, some b) :: p, [], ha, _, _, _ => ha.elim
  | (i, some b) :: p, y :: gs, ha, k, e, h => by
    obtain ⟨-, a3, a4, a5⟩ := ha
    have h : ((b.1, b.2, 0, .inl 0, .inl 0) :: v_gen p)[k]? = some e := h
    cases k with
    | zero =>
      simp at h
      subst h
      exact ⟨y, by simp, a3, a4, rfl⟩
    | succ k =>
      obtain ⟨x, g1, g2⟩ := v_gen_ok a5 k e (by simpa using h)
      exact ⟨x, by simpa using g1, g2⟩
theorem v_re_app {ρ gv : List Int} {env : q_S} (he : q_re ρ env) {p : v_Pat} {lc : g_Lc} (ha : v_alg p lc gv) : q_re (ρ ++ gv) (env ++ v_gen p) := by
  have hp : q_px ρ (ρ ++ gv) := ⟨gv, rfl⟩
  refine ⟨by rw [List.length_append, List.length_append, he.1, v_alg_len ha], fun k e hk => ?_⟩
  by_cases hl : k < env.length
  · rw [List.getElem?_append_left hl] at hk
    obtain ⟨x, a1, a2, a3, a4⟩ := he.2 k e hk
    exact ⟨x, q_r_px (a := .inr k) hp a1, a2, a3, a4.imp id (fun ⟨u, v, b1, b2, b3⟩ => ⟨u, v, q_r_px hp b1, q_r_px hp b2, b3⟩)⟩
  · rw [List.getElem?_append_right (by omega)] at hk
    obtain ⟨x, g1, g2, g3, g4⟩ := v_gen_ok ha _ e hk
    refine ⟨x, ?_, g2, g3, Or.inl g4⟩
    rw [List.getElem?_append_right (by rw [he.1]; omega), he.1]
    exact g1
theorem v_prog_ok {ρ : List Int} {env : q_S} (he : q_re ρ env) {s : Nat} {up : Bool} {w : q_N} {old new : Int} (h1 : ρ[s]? = some old) (h2 : q_r ρ w new) (h : v_prog env s up w = true) : (bif up then decide (old < new) else decide (new < old)) = true := by
  have i1 := q_iv_ok he (a := .inr s) h1
  have i2 := q_iv_ok he h2
  unfold v_prog at h
  rw [Bool.or_eq_true] at h
  rcases h with h | h
  · cases up with
    | true =>
      have h : q_ilt (q_iv env (.inr s)).2 (q_iv env w).1 = true := h
      rw [q_ilt_ok] at h
      simp only [cond_true, decide_eq_true_eq]
      omega
    | false =>
      have h : q_ilt (q_iv env w).2 (q_iv env (.inr s)).1 = true := h
      rw [q_ilt_ok] at h
      simp only [cond_false, decide_eq_true_eq]
      omega
  · split at h
    · rename_i t
      split at h
      · rename_i e hn
        rw [q_nth_eq] at hn
        obtain ⟨x, a1, a2, a3, a4⟩ := he.2 t e hn
        have ex : new = x := Option.some.inj (Eq.trans (Eq.symm (show ρ[t]? = some new from h2)) a1)
        obtain ⟨lo0, hi0, op, ea, eb⟩ := e
        dsimp only at h a4
        split at h
        · rename_i s' c
          simp only [Bool.and_eq_true, q_ile_ok] at h
          obtain ⟨c1, c2, c3, c4⟩ := h
          have es := q_beq c1
          subst es
          rcases a4 with a4 | ⟨u, v, b1, b2, b3⟩
          · cases a4
          · have b1 : old = u.toInt := q_r_inj (a := .inr s) h1 b1
            have b2 : v.toInt = c := b2
            have b3 : x = (u + v).toInt := b3
            have e9 : (u + v).toInt = u.toInt + v.toInt := by
              rw [← q_of u, ← q_of v, ← Int32.ofInt_add, q_of, q_of]
              exact q_ofr (by omega) (by omega)
            cases up with
            | true =>
              have c2 : q_ilt 0 c = true := c2
              rw [q_ilt_ok] at c2
              simp only [cond_true, decide_eq_true_eq]
              omega
            | false =>
              have c2 : q_ilt c 0 = true := c2
              rw [q_ilt_ok] at c2
              simp only [cond_false, decide_eq_true_eq]
              omega
        · cases h
      · cases h
    · cases h
theorem v_fo_ok : ∀ {O : List v_Oe} {pc : Nat} {h : v_Oe}, v_fo O pc = some h → h ∈ O ∧ h.1 = pc
  | [], _, _, h => by cases h
  | q :: O, pc, o, h => by
    have h : (bif Nat.beq q.1 pc then some q else v_fo O pc) = some o := h
    cases hb : Nat.beq q.1 pc with
    | true =>
      rw [hb] at h
      cases h
      exact ⟨List.mem_cons_self, q_beq hb⟩
    | false =>
      rw [hb] at h
      exact ⟨List.mem_cons_of_mem _ (v_fo_ok h).1, (v_fo_ok h).2⟩
set_option maxHeartbeats 1000000 in
theorem v_head_ok {X : v_X} {ih : v_Ih} (hX : v_XOk X) (hS1 : v_Snd X (v_one X.2.2.1 ih)) {O : List v_Oe} {d μ : Nat} {M : g_M} {pc : Nat} {hp : v_Hp} {ls : q_L} {st : List q_V} {A : v_A} {K : v_K} {ρ : List Int} {lc : g_Lc} {sc : List Value} {S : v_Sf} {R : v_Rf} (r1 : v_rl ρ ls lc) (r2 : q_al2 (q_rv ρ) st sc) (r3 : v_ra X ρ A S R) (h : v_head X.2.2.1 ih O d μ M pc hp ls st A K = true) : v_Out X O d M pc lc sc S R ρ K := by
  intro Q hK hO
  unfold v_head at h
  split at h
  · cases sc with
    | cons _ _ => exact r2.elim
    | nil =>
      split at h
      · rename_i o ho
        obtain ⟨m1, m2⟩ := v_fo_ok ho
        obtain ⟨h1, h2, h3, h4⟩ := hO o m1
        rw [Bool.and_eq_true] at h
        obtain ⟨⟨gv, g1⟩, g2⟩ := v_chk1_ok r3.1 r1 h3 h.1
        have hq := h.2
        split at hq
        · rename_i w hw
          obtain ⟨hz, u, b, g3, g4, g5, -, -⟩ := v_gp_ok g1 h2
          rw [Nat.sub_zero] at g4 g5
          obtain ⟨w1, k1, u1, rfl, k2⟩ := r1 _ _ hw
          have e1 : u1 = u := by
            have := Option.some.inj (k1.symm.trans g3)
            cases this
            rfl
          subst e1
          have hl : o.2.1 + o.2.2.2.2.2.1 < ρ.length := by
            have := (List.getElem?_eq_some_iff.mp g5).1
            omega
          have hold : ρ[o.2.1 + o.2.2.2.2.2.1]? = some ρ[o.2.1 + o.2.2.2.2.2.1] := List.getElem?_eq_getElem hl
          have := h4 gv lc S R _ _ g1 g2 hold g4 (v_prog_ok r3.1 hold k2 hq) r3.2.2.2
          rw [m2] at this
          exact this
        · cases hq
      · split at h
        · rename_i g hg
          rw [Bool.and_eq_true] at h
          obtain ⟨gv0, a0⟩ := v_chk0_ok r3.1 r1 h.1
          have hn : q_len A.1 = ρ.length := by rw [q_len_eq]; exact r3.1.1.symm
          obtain ⟨-, u0, b, -, -, gb, -, -⟩ := v_gp_ok a0 hg
          rw [Nat.sub_zero] at gb
          have main : ∀ (m : Nat) (gv : List Int) (lc : g_Lc) (S' : v_Sf) (R' : v_Rf) (x : Int), v_alg hp.1 lc gv → v_sm hp.1 ls ρ lc → v_In X S' R' → gv[g]? = some x → (bif hp.2.2.2 then (b.2 - x).toNat else (x - b.1).toNat) < m → v_Tm X d M pc lc [] S' R' Q := by
            intro m
            induction m with
            | zero => intro gv lc S' R' x _ _ _ _ hm; omega
            | succ m ihm =>
              intro gv lc S' R' x b1 b2 b3 b4 b5
              have px : q_px ρ (ρ ++ gv) := ⟨gv, rfl⟩
              have hlen := v_alg_len b1
              have rl1 : v_rl (ρ ++ gv) (v_mkl ls hp.1 (q_len A.1)) lc := by
                refine v_mkl_ok b1 (fun i v hm hv => ?_) (fun k y hk => ?_)
                · obtain ⟨w, w1, w2⟩ := b2 i v hm hv
                  exact ⟨w, w1, q_rv_px px w2⟩
                · rw [hn, List.getElem?_append_right (by omega), show ρ.length + k - ρ.length = k by omega]
                  exact hk
              have fr : ∀ a j, v_md X.2.2.1.2.1 a j j = false → S' a j = S a j ∧ R' a j = R a j := by
                intro a j hm
                have f1 := b3.2.2 a j hm
                have f2 := r3.2.2.2.2.2 a j hm
                exact ⟨f1.1.trans f2.1.symm, f1.2.trans f2.2.symm⟩
              have ra1 : v_ra X (ρ ++ gv) (A.1 ++ v_gen hp.1, v_ok A.1 X.2.2.1.2.1 A.2.1, v_rk X.2.2.1.2.1 A.2.2) S' R' := by
                refine ⟨v_re_app r3.1 b1, fun q hq => ?_, fun q hq => ?_, b3⟩
                · obtain ⟨j, g3, g4⟩ := v_keep r3.1 r3.2.1 (S1 := S') (fun a j hm => (fr a j hm).1) q hq
                  exact ⟨j, q_r_px px g3, q_r_px px g4⟩
                · obtain ⟨g3, g4⟩ := v_rk_in hq
                  rw [(fr _ _ (v_hit_md g4 (Nat.le_refl _) (Nat.le_refl _))).2]
                  exact r3.2.2.1 q g3
              refine hS1 _ d μ M pc _ [] _ K h.2 (ρ ++ gv) lc [] S' R' rl1 trivial ra1 Q (v_KOk_px px hK) ?_
              intro o ho
              rcases List.mem_cons.mp ho with ho | ho
              · subst ho
                have et : (ρ ++ gv).take (q_len A.1) = ρ := by rw [hn]; exact List.take_left
                refine ⟨?_, hg, ?_, ?_⟩
                · show q_len A.1 + (v_gen hp.1).length ≤ (ρ ++ gv).length
                  rw [List.length_append, hn, hlen]
                  exact Nat.le_refl _
                · intro i v hm hv
                  show ∃ w, q_rv ((ρ ++ gv).take (q_len A.1)) v w
                  rw [et]
                  obtain ⟨w, -, w2⟩ := b2 i v hm hv
                  exact ⟨w, w2⟩
                · intro gv2 lc2 S2 R2 old new c1 c2 c3 c4 c5 c6
                  have c2 : v_sm hp.1 ls ((ρ ++ gv).take (q_len A.1)) lc2 := c2
                  rw [et] at c2
                  have c3 : (ρ ++ gv)[q_len A.1 + g]? = some old := c3
                  rw [hn, List.getElem?_append_right (by omega), show ρ.length + g - ρ.length = g by omega] at c3
                  have ex : x = old := Option.some.inj (b4.symm.trans c3)
                  subst ex
                  have c4 : gv2[g]? = some new := c4
                  obtain ⟨y1, d1, d2, d3, -⟩ := v_gen_ok c1 g _ gb
                  have ey : new = y1 := Option.some.inj (c4.symm.trans d1)
                  obtain ⟨y2, d4, d5, d6, -⟩ := v_gen_ok b1 g _ gb
                  have ey2 : x = y2 := Option.some.inj (b4.symm.trans d4)
                  dsimp only at d2 d3 d5 d6
                  refine ihm gv2 lc2 S2 R2 new c1 c2 c6 c4 ?_
                  have c5 : (bif hp.2.2.2 then decide (x < new) else decide (new < x)) = true := c5
                  cases hu : hp.2.2.2 with
                  | true =>
                    rw [hu] at c5 b5
                    simp only [cond_true, decide_eq_true_eq] at c5 b5 ⊢
                    omega
                  | false =>
                    rw [hu] at c5 b5
                    simp only [cond_false, decide_eq_true_eq] at c5 b5 ⊢
                    omega
              · exact v_OOk_px px hO o ho
          obtain ⟨-, u1, b1, k1, k2, -, -, -⟩ := v_gp_ok a0 hg
          rw [Nat.sub_zero] at k2
          exact main _ gv0 lc S R u1.toInt a0 (fun i v _ hv => r1 i v hv) r3.2.2.2 k2 (Nat.lt_succ_self _)
        · cases h
  · cases h
theorem v_sound {X : v_X} (hX : v_XOk X) (hH : v_HkOk X) : ∀ n, v_Snd X (v_run X.2.2.1 n)
  | 0 => fun O d μ M pc ls st A K h => by cases h
  | n + 1 => fun O d μ M pc ls st A K h ρ lc sc S R r1 r2 r3 => by
    have h : (match X.2.2.1.2.2.2.1 μ pc with
      | none => v_one X.2.2.1 (v_run X.2.2.1 n) O d μ M pc ls st A K
      | some hp => v_head X.2.2.1 (v_run X.2.2.1 n) O d μ M pc hp ls st A K) = true := h
    have hS1 := v_one_ok hX hH (v_sound hX hH n)
    split at h
    · exact hS1 O d μ M pc ls st A K h ρ lc sc S R r1 r2 r3
    · exact v_head_ok hX hS1 r1 r2 r3 h
