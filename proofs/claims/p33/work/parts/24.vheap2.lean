theorem q_in32 {w : Int32} {n : Nat} (h1 : 0 ≤ w.toInt) (h2 : w.toInt < (n : Int)) : g_out w n = false ∧ w.toNatClampNeg = w.toInt.toNat := by
  refine ⟨?_, rfl⟩
  unfold g_out
  rw [decide_eq_false_iff_not]
  intro h
  rcases h with h | h
  · rw [q_lt32] at h
    have : (0 : Int32).toInt = 0 := rfl
    omega
  · have e : w.toNatClampNeg = w.toInt.toNat := rfl
    omega
section VG
variable {X : v_X} {ih : v_Ih} {O : List v_Oe} {d μ : Nat} {M : g_M} {pc : Nat} {ls : q_L} {st : List q_V} {A : v_A} {K : v_K} {ρ : List Int} {lc : g_Lc} {sc : List Value} {S : v_Sf} {R : v_Rf} {ins : Instr} {len x y : Nat} {z : Int}
theorem q_fits_ok {ty : FieldType} {A : v_A} {v : q_V} {w : Value} (he : q_re ρ A.1) (hv : q_rv ρ v w) (h : q_fits ty v A.1 q_iv = true) : narrow ty w = w ∧ fits ty w = true := by
  unfold q_fits at h
  split at h
  · obtain ⟨u, rfl, -⟩ := hv
    exact ⟨rfl, rfl⟩
  · rename_i a
    obtain ⟨u, rfl, hu⟩ := hv
    have hi := q_iv_ok he hu
    rw [Bool.and_eq_true, q_ile_ok, q_ile_ok] at h
    have : u.toInt = 0 ∨ u.toInt = 1 := by omega
    rcases this with e | e
    · have : u = 0 := q_inj (by rw [e]; rfl)
      subst this
      exact ⟨by rfl, by decide⟩
    · have : u = 1 := q_inj (by rw [e]; rfl)
      subst this
      exact ⟨by rfl, by decide⟩
  · rename_i o
    have hv : w = va_rf o := hv
    subst hv
    cases o <;> exact ⟨rfl, rfl⟩
  · rename_i o
    have hv : w = va_rf o := hv
    subst hv
    cases o <;> exact ⟨rfl, rfl⟩
  · cases h
theorem v_hp {st' : List q_V} {A' : v_A} {sc' : List Value} {S1 : v_Sf} {R1 : v_Rf} {ρ1 : List Int} (hS : v_Snd X ih) (hen : M.2.2.2.2.2 pc = some ((ins, len), x, y, z)) (r1 : v_rl ρ ls lc) (hp : q_px ρ ρ1) (h0 : g_stk ins z sc = none) (h1 : g_lcl M.2.2.2.1 ins lc sc = none) (h2 : g_jmp ins pc x sc = none) (hs : g_hp d X.1 X.2.1 ins x y sc (v_mk X.2.2.1.1 S R) = some (sc', v_mk X.2.2.1.1 S1 R1)) (r2 : q_al2 (q_rv ρ1) st' sc') (r3 : v_ra X ρ1 A' S1 R1) (hk : ih O d μ M (pc + len) ls st' A' K = true) : v_Out X O d M pc lc sc S R ρ K :=
  v_go hS hen (g_st_hp (en := ((ins, len), x, y, z)) h0 h1 h2 hs) hp (v_rl_px hp r1) r2 r3 hk
theorem v_fs_at {fs : List v_Ft} {a y : Nat} {ft : v_Ft} (h : fs[y]? = some ft) : (fs.mapIdx (fun j ft => v_fv S R a j ft))[y]? = some (v_fv S R a y ft) := by
  rw [List.getElem?_mapIdx, h]
  rfl
theorem v_gf_ok (hX : v_XOk X) {i : Nat} (hS : v_Snd X ih) (hen : M.2.2.2.2.2 pc = some ((.getfield i, len), x, y, z)) (r1 : v_rl ρ ls lc) (r2 : q_al2 (q_rv ρ) st sc) (r3 : v_ra X ρ A S R) (h : v_gf X.2.2.1 x y st A (fun st A => ih O d μ M (pc + len) ls st A K) = true) : v_Out X O d M pc lc sc S R ρ K := by
  unfold v_gf at h
  split at h
  · rename_i a r
    obtain ⟨t, rfl, r4⟩ := q_cons_r r2
    split at h
    · rename_i ci fs hg
      have g1 := v_mk_at hX hg S R
      replace h := q_bifc h
      obtain ⟨hx, h⟩ := h
      have e : ci = x := q_beq hx
      subst e
      have hT := r3.2.2.2.1 a _ hg
      have step : ∀ ft, fs[y]? = some ft → g_hp d X.1 X.2.1 (.getfield i) ci y (va_rf (some (a + 1)) :: t) (v_mk X.2.2.1.1 S R) = some (v_fv S R a y ft :: t, v_mk X.2.2.1.1 S R) := by
        intro ft hf
        have g2 := v_fs_at (S := S) (R := R) (a := a) hf
        simp only [g_hp, va_rf, g_gf, g1, v_cell, beq_self_eq_true, cond_true, g2]
      rw [q_nth_eq] at h
      split at h
      · rename_i b hf
        have hb : v_TbF S R a y (.inl b) := hT y _ hf
        obtain ⟨ρ1, v, A1, p1, p2, p3, p4⟩ := v_rd_ok r3 (a := a) (j := y) (i := .inl (Int.ofNat y)) rfl hb.1 hb.2 h
        exact v_hp hS hen r1 p1 rfl rfl rfl (step _ hf) (st' := .inl v :: r) ⟨⟨_, rfl, p2⟩, q_st_px p1 r4⟩ p3 p4
      · rename_i c hf
        exact v_hp hS hen r1 (q_px_rf ρ) rfl rfl rfl (step _ hf) (st' := .inr (.inr (some c)) :: r) ⟨rfl, r4⟩ r3 h
      · rename_i l hf
        have hb : v_TbF S R a y (.inr (.inr l)) := hT y _ hf
        obtain ⟨A1, rr, hrr, p3, p4⟩ := v_rr_ok r3 (a := a) (j := y) hb h
        have hs := step _ hf
        have e9 : v_fv S R a y (.inr (.inr l)) = va_rf (some rr) := by
          show va_rf (R a y) = _
          rw [hrr]
        rw [e9] at hs
        exact v_hp hS hen r1 (q_px_rf ρ) rfl rfl rfl hs (st' := .inr (.inr (some rr)) :: r) ⟨rfl, r4⟩ p3 p4
      · cases h
    · cases h
  · cases h
theorem v_Tb_row (hT : v_Tb X.2.2.1.1 S R) {a tg n : Nat} {lo hi : Int} (hg : X.2.2.1.1 a = some (.inl (tg, n, lo, hi))) {f : Nat → Int32} (hf : ∀ j, j < n → lo ≤ (f j).toInt ∧ (f j).toInt ≤ hi) : v_Tb X.2.2.1.1 (v_ur S a f) R := by
  intro a' t ht
  by_cases ha : a' = a
  · subst ha
    rw [hg] at ht
    cases ht
    show ∀ j, j < n → lo ≤ (v_ur S a' f a' j).toInt ∧ (v_ur S a' f a' j).toInt ≤ hi
    rw [v_ur_s]
    exact hf
  · have h1 := hT a' t ht
    unfold v_TbC at h1 ⊢
    unfold v_TbF at h1 ⊢
    rw [v_ur_n S f ha]
    exact h1
theorem v_Tb_fld (hT : v_Tb X.2.2.1.1 S R) {a ci y : Nat} {fs : List v_Ft} {b : Int × Int} (hg : X.2.2.1.1 a = some (.inr (.inr (ci, fs)))) (hy : fs[y]? = some (.inl b)) {w : Int32} (h1 : b.1 ≤ w.toInt) (h2 : w.toInt ≤ b.2) : v_Tb X.2.2.1.1 (v_ur S a (upd (S a) y w)) R := by
  intro a' t ht
  have h3 := hT a' t ht
  by_cases ha : a' = a
  · subst ha
    rw [hg] at ht
    cases ht
    intro j ft hj
    have h4 : v_TbF S R a' j ft := h3 j ft hj
    unfold v_TbF at h4 ⊢
    rw [v_ur_s]
    by_cases hjy : j = y
    · subst hjy
      have : ft = .inl b := Option.some.inj (hj.symm.trans hy)
      subst this
      simpa [upd] using And.intro h1 h2
    · simpa [upd, hjy] using h4
  · unfold v_TbC at h3 ⊢
    unfold v_TbF at h3 ⊢
    rw [v_ur_n S _ ha]
    exact h3
theorem v_mem_ok : ∀ {l : List Nat} {c : Nat}, v_mem l c = true → c ∈ l
  | [], _, h => by cases h
  | q :: l, c, h => by
    have h : (bif Nat.beq q c then true else v_mem l c) = true := h
    cases hb : Nat.beq q c with
    | true => rw [q_beq hb]; exact List.mem_cons_self
    | false => rw [hb] at h; exact List.mem_cons_of_mem _ (v_mem_ok h)
theorem v_pf_ok (hX : v_XOk X) {i : Nat} (hS : v_Snd X ih) (hen : M.2.2.2.2.2 pc = some ((.putfield i, len), x, y, z)) (r1 : v_rl ρ ls lc) (r2 : q_al2 (q_rv ρ) st sc) (r3 : v_ra X ρ A S R) (h : v_pf X.2.2.1 x y st A (fun st A => ih O d μ M (pc + len) ls st A K) = true) : v_Out X O d M pc lc sc S R ρ K := by
  unfold v_pf at h
  split at h
  · rename_i v a r
    obtain ⟨w, t, rfl, hv, r4⟩ := q_cons r2
    obtain ⟨t, rfl, r5⟩ := q_cons_r r4
    split at h
    · rename_i ci fs hg
      have g1 := v_mk_at hX hg S R
      replace h := q_bifc h
      obtain ⟨hx, h⟩ := h
      rw [Bool.and_eq_true] at hx
      have e : ci = x := q_beq hx.1
      subst e
      obtain ⟨f1, f2⟩ := q_fits_ok r3.1 hv hx.2
      rw [q_nth_eq] at h
      have step : ∀ ft, fs[y]? = some ft → g_hp d X.1 X.2.1 (.putfield i) ci y (w :: va_rf (some (a + 1)) :: t) (v_mk X.2.2.1.1 S R) = some (t, (v_mk X.2.2.1.1 S R).set a (.inr (ci, (fs.mapIdx (fun j ft => v_fv S R a j ft)).set y w))) := by
        intro ft hf
        have hl : y < (fs.mapIdx (fun j ft => v_fv S R a j ft)).length := by simpa using (List.getElem?_eq_some_iff.mp hf).1
        simp only [g_hp, va_rf, g_pf, g1, v_cell]
        rw [if_pos ⟨trivial, hl, f1, f2⟩]
      split at h
      · rename_i b n hf
        obtain ⟨u, rfl, hu⟩ := hv
        obtain ⟨A1, p3, p4⟩ := v_wr_ok hX r3 (a := a) (j := y) (i := .inl (Int.ofNat y)) rfl hu (fun c1 c2 => v_Tb_fld r3.2.2.2.1 hg hf c1 c2) h
        have hs := step _ hf
        rw [v_mk_fld hg hf] at hs
        exact v_hp hS hen r1 (q_px_rf ρ) rfl rfl rfl hs r5 p3 p4
      · rename_i l c hf
        obtain ⟨c1, c2⟩ := q_bifc h
        rw [Bool.and_eq_true] at c1
        have hs := step _ hf
        have hw : w = .ref c := hv
        subst hw
        rw [v_mk_ref hg hf] at hs
        have hne : ∀ a' j', ¬ (a' = a ∧ j' = y) → v_urr R a y c a' j' = R a' j' := fun a' j' hn => by simp [v_urr, hn]
        refine v_hp hS hen r1 (q_px_rf ρ) rfl rfl rfl hs r5 (A' := (A.1, A.2.1, v_row A.2.2 a y c)) ⟨r3.1, r3.2.1, fun q hq => ?_, ?_, r3.2.2.2.2.1, fun a' j' hm => ?_⟩ c2
        · rcases List.mem_cons.mp hq with hq | hq
          · subst hq
            simp [v_urr]
          · obtain ⟨g2, g3⟩ := v_row_in hq
            rw [hne _ _ g3]
            exact r3.2.2.1 q g2
        · intro a' t' ht
          have h3 := r3.2.2.2.1 a' t' ht
          unfold v_TbC at h3 ⊢
          split
          · exact h3
          · rename_i l2
            intro j r2 hj2
            have h5 := h3 j r2 hj2
            rw [hne]
            · exact h5
            · rintro ⟨rfl, rfl⟩
              rw [hg] at ht
              cases ht
          · intro j ft hj
            have h4 : v_TbF S R a' j ft := h3 j ft hj
            unfold v_TbF at h4 ⊢
            split
            · exact h4
            · trivial
            · rename_i l'
              by_cases hh : a' = a ∧ j = y
              · obtain ⟨rfl, rfl⟩ := hh
                rw [hg] at ht
                cases ht
                have : (Sum.inr (Sum.inr l') : v_Ft) = .inr (.inr l) := Option.some.inj (hj.symm.trans hf)
                cases this
                have e9 : v_urr R a' j c a' j = some c := by simp [v_urr]
                exact ⟨c, v_mem_ok c1.1, e9⟩
              · rw [hne _ _ hh]
                exact h4
        · have hh : ¬ (a' = a ∧ j' = y) := by
            rintro ⟨rfl, rfl⟩
            rw [c1.2] at hm
            cases hm
          rw [hne _ _ hh]
          exact r3.2.2.2.2.2 a' j' hm
      · cases h
    · cases h
  · cases h
theorem v_al_ok (hX : v_XOk X) (hS : v_Snd X ih) (hen : M.2.2.2.2.2 pc = some ((.arraylength, len), x, y, z)) (r1 : v_rl ρ ls lc) (r2 : q_al2 (q_rv ρ) st sc) (r3 : v_ra X ρ A S R) (h : v_al X.2.2.1 st A (fun st A => ih O d μ M (pc + len) ls st A K) = true) : v_Out X O d M pc lc sc S R ρ K := by
  unfold v_al at h
  split at h
  · rename_i a r
    obtain ⟨t, rfl, r4⟩ := q_cons_r r2
    have hn : ∀ n : Nat, n < 100001 → (Int32.ofNat n).toInt = (n : Int) := fun n hn => by
      show (Int32.ofInt (n : Int)).toInt = _
      exact q_ofr (by omega) (by omega)
    split at h
    · rename_i tg n b hg
      have g1 := v_mk_at hX hg S R
      replace h := q_bifc h
      obtain ⟨hx, h⟩ := h
      rw [Bool.and_eq_true] at hx
      have ht := q_blt hx.1
      refine v_hp hS hen r1 (q_px_rf ρ) rfl rfl rfl (sc' := .int (Int32.ofNat n) :: t) (S1 := S) (R1 := R) ?_ (st' := .inl (.inl (n : Int)) :: r) ⟨⟨_, rfl, hn n (q_blt hx.2)⟩, r4⟩ r3 h
      simp only [g_hp, va_rf, g_al, g1, v_cell]
      rw [if_pos ht]
    · rename_i l hg
      have g1 := v_mk_at hX hg S R
      replace h := q_bifc h
      obtain ⟨hx, h⟩ := h
      rw [q_len_eq] at hx h
      refine v_hp hS hen r1 (q_px_rf ρ) rfl rfl rfl (sc' := .int (Int32.ofNat l.length) :: t) (S1 := S) (R1 := R) ?_ (st' := .inl (.inl (l.length : Int)) :: r) ⟨⟨_, rfl, hn _ (q_blt hx)⟩, r4⟩ r3 h
      simp only [g_hp, va_rf, g_al, g1, v_cell]
      rw [if_pos (by decide)]
    · cases h
  · cases h
theorem v_ia_ok (hX : v_XOk X) {b : Bool} (hS : v_Snd X ih) (hen : M.2.2.2.2.2 pc = some ((ins, len), x, y, z)) (r1 : v_rl ρ ls lc) (r2 : q_al2 (q_rv ρ) st sc) (r3 : v_ra X ρ A S R) (h0 : ins = (bif b then Instr.baload else Instr.iaload)) (h : v_ia X.2.2.1 b st A (fun st A => ih O d μ M (pc + len) ls st A K) = true) : v_Out X O d M pc lc sc S R ρ K := by
  unfold v_ia at h
  split at h
  · rename_i i a r
    obtain ⟨iw, t, rfl, hi, r4⟩ := q_cons_i r2
    obtain ⟨t, rfl, r5⟩ := q_cons_r r4
    split at h
    · rename_i tg n lo hi' hg
      have g1 := v_mk_at hX hg S R
      replace h := q_bifc h
      obtain ⟨hx, h⟩ := h
      rw [Bool.and_eq_true, Bool.and_eq_true, q_ile_ok, q_ilt_ok] at hx
      obtain ⟨x1, x2, x3⟩ := hx
      have iv := q_iv_ok r3.1 hi
      obtain ⟨o1, o2⟩ := q_in32 (w := iw) (n := n) (by omega) (by omega)
      have hT : v_TbC S R a _ := r3.2.2.2.1 a _ hg
      have hb := hT iw.toInt.toNat (by omega)
      have hi2 : q_r ρ i ((iw.toInt.toNat : Nat) : Int) := by
        rw [show ((iw.toInt.toNat : Nat) : Int) = iw.toInt by omega]
        exact hi
      obtain ⟨ρ1, v, A1, p1, p2, p3, p4⟩ := v_rd_ok r3 hi2 hb.1 hb.2 h
      refine v_hp hS hen r1 p1 ?_ ?_ ?_ (sc' := .int (S a iw.toNatClampNeg) :: t) (S1 := S) (R1 := R) ?_ (st' := .inl v :: r) ⟨⟨_, rfl, by rw [o2]; exact p2⟩, q_st_px p1 r5⟩ p3 p4
      · subst h0; cases b <;> rfl
      · subst h0; cases b <;> rfl
      · subst h0; cases b <;> rfl
      · subst h0
        cases b with
        | false =>
          have e := q_beq x1
          subst e
          simp only [cond_false, g_hp, va_rf, g_ia, g1, v_cell, o1]
        | true =>
          have x1 : (Nat.beq tg 1 || Nat.beq tg 2) = true := x1
          rw [Bool.or_eq_true] at x1
          rcases x1 with x1 | x1
          · have e := q_beq x1
            subst e
            simp only [cond_true, g_hp, va_rf, g_ba, g1, v_cell, o1, cond_false]
          · have e := q_beq x1
            subst e
            simp only [cond_true, g_hp, va_rf, g_ba, g1, v_cell, o1, cond_false]
    · cases h
  · cases h
theorem v_is_ok (hX : v_XOk X) {b : Bool} (hS : v_Snd X ih) (hen : M.2.2.2.2.2 pc = some ((ins, len), x, y, z)) (r1 : v_rl ρ ls lc) (r2 : q_al2 (q_rv ρ) st sc) (r3 : v_ra X ρ A S R) (h0 : ins = (bif b then Instr.bastore else Instr.iastore)) (h : v_is X.2.2.1 b st A (fun st A => ih O d μ M (pc + len) ls st A K) = true) : v_Out X O d M pc lc sc S R ρ K := by
  unfold v_is at h
  split at h
  · rename_i v i a r
    obtain ⟨w, t, rfl, hv, r4⟩ := q_cons_i r2
    obtain ⟨iw, t, rfl, hi, r5⟩ := q_cons_i r4
    obtain ⟨t, rfl, r6⟩ := q_cons_r r5
    split at h
    · rename_i tg n lo hi' hg
      have g1 := v_mk_at hX hg S R
      replace h := q_bifc h
      obtain ⟨hx, h⟩ := h
      rw [Bool.and_eq_true, Bool.and_eq_true, q_ile_ok, q_ilt_ok] at hx
      obtain ⟨x1, x2, x3⟩ := hx
      have iv := q_iv_ok r3.1 hi
      have hvi := q_iv_ok r3.1 hv
      obtain ⟨o1, o2⟩ := q_in32 (w := iw) (n := n) (by omega) (by omega)
      have hT : v_TbC S R a _ := r3.2.2.2.1 a _ hg
      have hi2 : q_r ρ i ((iw.toInt.toNat : Nat) : Int) := by
        rw [show ((iw.toInt.toNat : Nat) : Int) = iw.toInt by omega]
        exact hi
      obtain ⟨A1, p3, p4⟩ := v_wr_ok hX r3 (a := a) hi2 hv (fun c1 c2 => v_Tb_row r3.2.2.2.1 hg (fun j hjn => by
        by_cases hj : j = iw.toInt.toNat
        · have e : upd (S a) iw.toInt.toNat w j = w := by rw [upd, if_pos hj]
          rw [e]; exact And.intro c1 c2
        · have e : upd (S a) iw.toInt.toNat w j = S a j := by rw [upd, if_neg hj]
          rw [e]; exact hT j hjn)) h
      refine v_hp hS hen r1 (q_px_rf ρ) ?_ ?_ ?_ (sc' := t) (S1 := v_ur S a (upd (S a) iw.toInt.toNat w)) (R1 := R) ?_ r6 p3 p4
      · subst h0; cases b <;> rfl
      · subst h0; cases b <;> rfl
      · subst h0; cases b <;> rfl
      · subst h0
        cases b with
        | false =>
          have e := q_beq x1
          subst e
          simp only [cond_false, g_hp, va_rf, g_is, g1, v_cell, o1, o2]
          rw [v_mk_row hg]
        | true =>
          have x1 : ((Nat.beq tg 1 && v_in (q_iv A.1 v) (-128) 127) || (Nat.beq tg 2 && v_in (q_iv A.1 v) 0 1)) = true := x1
          rw [Bool.or_eq_true, Bool.and_eq_true, Bool.and_eq_true] at x1
          rcases x1 with x1 | x1
          · have e := q_beq x1.1
            subst e
            have hb := v_in_ok x1.2 hvi
            have hn : vp_nar .byte w = w := by
              rw [vp_nar_byte]
              apply q_inj
              rw [Int8.toInt_toInt32, Int32.toInt_toInt8]
              exact Int.bmod_eq_of_le (by omega) (by omega)
            simp only [cond_true, g_hp, va_rf, g_bs, g1, v_cell, o1, o2, cond_false, hn]
            rw [v_mk_row hg]
          · have e := q_beq x1.1
            subst e
            have hb := v_in_ok x1.2 hvi
            have hn : vp_nar .boolean w = w := by
              have : w.toInt = 0 ∨ w.toInt = 1 := by omega
              rcases this with e | e
              · have : w = 0 := q_inj (by rw [e]; rfl)
                subst this
                rfl
              · have : w = 1 := q_inj (by rw [e]; rfl)
                subst this
                rfl
            simp only [cond_true, g_hp, va_rf, g_bs, g1, v_cell, o1, o2, cond_false, hn]
            rw [v_mk_row hg]
    · cases h
  · cases h
theorem v_aa_ok (hX : v_XOk X) (hS : v_Snd X ih) (hen : M.2.2.2.2.2 pc = some ((.aaload, len), x, y, z)) (r1 : v_rl ρ ls lc) (r2 : q_al2 (q_rv ρ) st sc) (r3 : v_ra X ρ A S R) (h : v_aa X.2.2.1 st A (fun st A => ih O d μ M (pc + len) ls st A K) = true) : v_Out X O d M pc lc sc S R ρ K := by
  unfold v_aa at h
  split at h
  · rename_i i a r
    obtain ⟨iw, t, rfl, hi, r4⟩ := q_cons_i r2
    obtain ⟨t, rfl, r5⟩ := q_cons_r r4
    split at h
    · rename_i l hg
      have g1 := v_mk_at hX hg S R
      replace h := q_bifc h
      obtain ⟨hx, h⟩ := h
      rw [Bool.and_eq_true, q_ile_ok, q_ilt_ok, q_len_eq] at hx
      have iv := q_iv_ok r3.1 hi
      obtain ⟨o1, o2⟩ := q_in32 (w := iw) (n := l.length) (by omega) (by omega)
      obtain ⟨e, he, h2⟩ := v_need_ok r3.1 hi h
      rw [q_nth_eq] at h2
      split at h2
      · rename_i rr hr
        refine v_hp hS hen r1 (q_px_rf ρ) rfl rfl rfl (sc' := va_rf (some rr) :: t) (S1 := S) (R1 := R) ?_ (st' := .inr (.inr (some rr)) :: r) (And.intro rfl r5) (v_ra_env r3 (q_px_rf ρ) he) h2
        have hRR : R a iw.toInt.toNat = some rr := (show v_TbC S R a _ from r3.2.2.2.1 a _ hg) _ _ hr
        simp only [g_hp, va_rf, g_aa, g1, v_cell, o1, cond_false, o2, hRR]
      · cases h2
    · cases h
  · cases h
theorem v_cp_ok (hX : v_XOk X) {i : Nat} (hS : v_Snd X ih) (hen : M.2.2.2.2.2 pc = some ((.invokestatic i, len), x, y, z)) (r1 : v_rl ρ ls lc) (r2 : q_al2 (q_rv ρ) st sc) (r3 : v_ra X ρ A S R) (hx : x = 99998) (h : v_cp X.2.2.1 d st A (fun st A => ih O d μ M (pc + len) ls st A K) = true) : v_Out X O d M pc lc sc S R ρ K := by
  unfold v_cp at h
  split at h
  · rename_i n a a0 r
    obtain ⟨nw, t, rfl, hn, r4⟩ := q_cons_i r2
    obtain ⟨dw, t, rfl, hdp, r5⟩ := q_cons_i r4
    obtain ⟨t, rfl, r6⟩ := q_cons_r r5
    obtain ⟨sw, t, rfl, hs, r7⟩ := q_cons_i r6
    obtain ⟨t, rfl, r8⟩ := q_cons_r r7
    have hdp : dw = 0 := q_inj hdp
    have hs : sw = 0 := q_inj hs
    subst hdp hs
    split at h
    · rename_i n0 lo0 hi0 n1 lo1 hi1 hg0 hg1
      have g0 := v_mk_at hX hg0 S R
      have g1 := v_mk_at hX hg1 S R
      replace h := q_bifc h
      obtain ⟨hc, h⟩ := h
      simp only [Bool.and_eq_true, q_ile_ok, Nat.ble_eq] at hc
      obtain ⟨⟨⟨c1, c2⟩, c3, c4, c5⟩, ⟨c6, c7⟩, c8, c9⟩ := hc
      have iv := q_iv_ok r3.1 hn
      have q6 : g_cat t ≤ 8 := by rw [q_lsl_ok r8]; exact c8
      have c7 : X.2.2.1.2.2.1 a 0 n1 = false := by
        cases hc : X.2.2.1.2.2.1 a 0 n1 with
        | false => rfl
        | true => rw [hc] at c7; cases c7
      have z0 : (0 : Int32).toNatClampNeg = 0 := rfl
      have z1 : ¬ (0 : Int32) < 0 := by decide
      have zn : ¬ nw < 0 := fun hh => by rw [q_lt32] at hh; have : (0 : Int32).toInt = 0 := rfl; omega
      have ez : nw.toNatClampNeg = nw.toInt.toNat := rfl
      have hne : ∀ a' j', ¬ (a' = a ∧ j' ≤ n1) → v_ur S a (va_cpy (S a0) (S a) 0 0 nw.toInt.toNat) a' j' = S a' j' := by
        intro a' j' hn
        by_cases ha : a' = a
        · subst ha
          rw [v_ur_s]
          have : ¬ j' ≤ n1 := fun e => hn ⟨rfl, e⟩
          simp only [va_cpy]
          rw [if_neg (by omega)]
        · rw [v_ur_n _ _ ha]
      have hT0 : v_TbC S R a0 _ := r3.2.2.2.1 a0 _ hg0
      have hT1 : v_TbC S R a _ := r3.2.2.2.1 a _ hg1
      refine v_hp hS hen r1 (q_px_rf ρ) rfl rfl rfl (sc' := t) (S1 := v_ur S a (va_cpy (S a0) (S a) 0 0 nw.toInt.toNat)) (R1 := R) ?_ r8 (A' := (A.1, v_ok A.1 [(a, 0, n1)] A.2.1, A.2.2)) ⟨r3.1, v_keep r3.1 r3.2.1 (fun a' j' hm => hne a' j' ?_), r3.2.2.1, v_Tb_row r3.2.2.2.1 hg1 (fun j hjn => ?_), hX.1 S _ (fun a' j' hf => hne a' j' ?_) r3.2.2.2.2.1, fun a' j' hm => ?_⟩ h
      · subst hx
        simp only [g_hp, g_nv, beq_self_eq_true, cond_true, va_rf, g_cp, g0, g1, v_cell, z0, ez]
        rw [if_pos ⟨z1, z1, zn, by omega, by omega, q6, q_blt c9⟩, v_mk_row hg1]
      · rintro ⟨rfl, hj⟩
        have : v_md [(a', 0, n1)] a' j' j' = true := by
          show (bif Nat.beq a' a' && (Nat.ble 0 j' && Nat.ble j' n1) then true else false) = true
          have e : (Nat.beq a' a' && (Nat.ble 0 j' && Nat.ble j' n1)) = true := by simp [hj]
          rw [e]
          rfl
        rw [this] at hm
        cases hm
      · simp only [va_cpy]
        split
        · have := hT0 (0 + (j - 0)) (by omega)
          omega
        · exact hT1 j hjn
      · rintro ⟨rfl, hj⟩
        rw [hX.2.1 a' 0 n1 j' c7 (by omega) hj] at hf
        cases hf
      · rw [hne a' j' ?_]
        · exact r3.2.2.2.2.2 a' j' hm
        · rintro ⟨rfl, hj⟩
          rw [v_md_mono c6 (j := j') (by omega) hj] at hm
          cases hm
    · cases h
  · cases h
theorem v_m2_ok {i op k : Nat} {f : Int32 → Int32 → Int32} (hop : op ≠ 0) (hF : ∀ a b, q_F op a b = f a b) (hnv : ∀ st σ, g_nv d k st σ = g_m2 d f st σ) (hS : v_Snd X ih) (hen : M.2.2.2.2.2 pc = some ((.invokestatic i, len), x, y, z)) (r1 : v_rl ρ ls lc) (r2 : q_al2 (q_rv ρ) st sc) (r3 : v_ra X ρ A S R) (hx : x = k) (h : v_m2 d op st A (fun st A => ih O d μ M (pc + len) ls st A K) = true) : v_Out X O d M pc lc sc S R ρ K := by
  unfold v_m2 at h
  split at h
  · rename_i b a r
    obtain ⟨yv, t, rfl, hb, r4⟩ := q_cons_i r2
    obtain ⟨xv, t, rfl, ha, r5⟩ := q_cons_i r4
    replace h := q_bifc h
    obtain ⟨hc, h⟩ := h
    rw [Bool.and_eq_true, Nat.ble_eq] at hc
    have q6 : g_cat t ≤ 8 := by rw [q_lsl_ok r5]; exact hc.1
    obtain ⟨ρ1, e1, v, p1, p2, p3, p4⟩ := v_bin_ok r3.1 hop ha hb h
    refine v_hp hS hen r1 p1 rfl rfl rfl (sc' := .int (f xv yv) :: t) (S1 := S) (R1 := R) ?_ (st' := .inl v :: r) ⟨⟨_, rfl, by rw [← hF]; exact p3⟩, q_st_px p1 r5⟩ (v_ra_env r3 p1 p2) p4
    subst hx
    simp only [g_hp, hnv, g_m2]
    rw [if_pos ⟨q6, q_blt hc.2⟩]
  · cases h
theorem v_m1_ok {i k : Nat} {f : Int32 → Int32} (hnv : ∀ st σ, g_nv d k st σ = g_m1 d f st σ) (hS : v_Snd X ih) (hen : M.2.2.2.2.2 pc = some ((.invokestatic i, len), x, y, z)) (r1 : v_rl ρ ls lc) (r2 : q_al2 (q_rv ρ) st sc) (r3 : v_ra X ρ A S R) (hx : x = k) (h : v_m1 d st A (fun st A => ih O d μ M (pc + len) ls st A K) = true) : v_Out X O d M pc lc sc S R ρ K := by
  unfold v_m1 at h
  split at h
  · rename_i a r
    obtain ⟨xv, t, rfl, ha, r5⟩ := q_cons_i r2
    replace h := q_bifc h
    obtain ⟨hc, h⟩ := h
    rw [Bool.and_eq_true, Nat.ble_eq] at hc
    have q6 : g_cat t ≤ 8 := by rw [q_lsl_ok r5]; exact hc.1
    obtain ⟨n1, n2, n3⟩ := q_new_ok r3.1 (e := (-2147483648, 2147483647, 0, .inl 0, .inl 0)) (q_rng (f xv)).1 (q_rng (f xv)).2 (Or.inl rfl)
    refine v_hp hS hen r1 n1 rfl rfl rfl (sc' := .int (f xv) :: t) (S1 := S) (R1 := R) ?_ (st' := .inl _ :: r) ⟨⟨_, rfl, n3⟩, q_st_px n1 r5⟩ (v_ra_env r3 n1 n2) h
    subst hx
    simp only [g_hp, hnv, g_m1]
    rw [if_pos ⟨q6, q_blt hc.2⟩]
  · cases h
end VG
