theorem q_tk_ok {ρ : List Int} {k : List q_V → List q_V → Bool} : ∀ (m : Nat) (acc r : List q_V) (accc rc : List Value), q_al2 (q_rv ρ) acc accc → q_al2 (q_rv ρ) r rc → Nat.rec (motive := fun _ => List q_V → List q_V → Bool) (fun acc r => k acc r) (fun _ ih acc r => match r with
  | [] => false
  | h :: t => ih (h :: acc) t) m acc r = true → ∃ as r', m ≤ rc.length ∧ q_al2 (q_rv ρ) as ((rc.take m).reverse ++ accc) ∧ q_al2 (q_rv ρ) r' (rc.drop m) ∧ k as r' = true
  | 0, acc, r, accc, rc, h1, h2, h => ⟨acc, r, Nat.zero_le _, by simpa using h1, by simpa using h2, h⟩
  | m + 1, acc, r, accc, rc, h1, h2, h => by
    cases r with
    | nil => cases h
    | cons v r =>
      cases rc with
      | nil => exact h2.elim
      | cons w rc =>
        obtain ⟨as, r', g1, g2, g3, g4⟩ := q_tk_ok m (v :: acc) r (w :: accc) rc ⟨h2.1, h1⟩ h2.2 h
        refine ⟨as, r', by simp; omega, ?_, by simpa using g3, g4⟩
        simpa using g2
theorem g_run_call {L : Nat} {xs : Nat → Int32} {n d' : Nat} {M M' : g_M} {pc : Nat} {lc : g_Lc} {sc : List Value} {σ : List g_Ce} {ins : Instr} {len x y k : Nat} {z : Int} {q : List Value × List Value} {w : Option Value × List g_Ce} (hen : M.2.2.2.2.2 pc = some ((ins, len), x, y, z)) (h0 : g_step (d' + 1) M.2.2.2.1 L xs ((ins, len), x, y, z) pc lc sc σ = none) (h1 : g_rt ins M.2.2.2.2.1 sc = none) (h2 : g_ki ins = some k) (h3 : (x == 99999) = false) (h4 : g_mt x = some M') (h5 : g_cl k y M'.1 sc σ = some q) (h6 : g_cat q.2 ≤ 8) (h7 : (lg_sl q.1).length ≤ M'.2.2.2.1) (h8 : g_run g_mt L xs n d' M' 0 (lv_args 0 q.1) [] σ = some w) : g_run g_mt L xs (n + 1) (d' + 1) M pc lc sc σ = g_run g_mt L xs n (d' + 1) M (pc + 3) lc (w.1.toList ++ q.2) w.2 := by
  rw [g_run]
  have e6 : decide (g_cat q.2 ≤ 8) = true := by simpa using h6
  have e7 : decide ((lg_sl q.1).length ≤ M'.2.2.2.1) = true := by simpa using h7
  simp only [hen, h0, h1, h2, h3, h4, h5, e6, e7, h8, cond_false, cond_true, Bool.and_self]
theorem g_run_ret {L : Nat} {xs : Nat → Int32} {n d : Nat} {M : g_M} {pc : Nat} {lc : g_Lc} {sc : List Value} {σ : List g_Ce} {en : g_En} {r : Option Value} (hen : M.2.2.2.2.2 pc = some en) (h0 : g_step d M.2.2.2.1 L xs en pc lc sc σ = none) (h1 : g_rt en.1.1 M.2.2.2.2.1 sc = some r) : g_run g_mt L xs (n + 1) d M pc lc sc σ = some (r, σ) := by
  rw [g_run]
  simp only [hen, h0, h1]
theorem g_nv_none {d x : Nat} {st : List Value} {σ : List g_Ce} (h : x < 77777) : g_nv d x st σ = none := by
  have b1 : (x == 99998) = false := by simp; omega
  have b2 : (x == 99997) = false := by simp; omega
  have b3 : (x == 99996) = false := by simp; omega
  have b4 : (x == 99995) = false := by simp; omega
  simp only [g_nv, b1, b2, b3, b4, cond_false]
theorem q_cn (k : Nat) (q : vw_C) (hk : k < 13) (h : vwCl[k]? = some q) : q.1 = g_cn k := by
  match k, h with
  | 0, h => cases h; rfl
  | 1, h => cases h; rfl
  | 2, h => cases h; rfl
  | 3, h => cases h; rfl
  | 4, h => cases h; rfl
  | 5, h => cases h; rfl
  | 6, h => cases h; rfl
  | 7, h => cases h; rfl
  | 8, h => cases h; rfl
  | 9, h => cases h; rfl
  | 10, h => cases h; rfl
  | 11, h => cases h; rfl
  | 12, h => cases h; rfl
  | m + 13, h => omega
theorem q_vw (k : Nat) (hk : k < 13) : ∃ q, vwCl[k]? = some q := by
  match k, hk with
  | 0, _ => exact ⟨_, rfl⟩
  | 1, _ => exact ⟨_, rfl⟩
  | 2, _ => exact ⟨_, rfl⟩
  | 3, _ => exact ⟨_, rfl⟩
  | 4, _ => exact ⟨_, rfl⟩
  | 5, _ => exact ⟨_, rfl⟩
  | 6, _ => exact ⟨_, rfl⟩
  | 7, _ => exact ⟨_, rfl⟩
  | 8, _ => exact ⟨_, rfl⟩
  | 9, _ => exact ⟨_, rfl⟩
  | 10, _ => exact ⟨_, rfl⟩
  | 11, _ => exact ⟨_, rfl⟩
  | 12, _ => exact ⟨_, rfl⟩
  | m + 13, h => omega
theorem v_args_ok {ρ : List Int} : ∀ {as : List q_V} {ac : List Value} (_ : q_al2 (q_rv ρ) as ac) (i : Nat), v_rl ρ (q_args i as) (lv_args i ac)
  | [], [], _, _ => fun j v h => by cases h
  | v :: s, w :: t, ⟨h1, h2⟩, i => by
    intro j u hj
    have hj : (bif Nat.beq i j then some v else q_gl (q_args (i + q_ct v) s) j) = some u := hj
    have e : (if w.category = 2 then i + 2 else i + 1) = i + q_ct v := by
      rw [q_cat h1]
      match v with
      | .inl _ => rfl
      | .inr (.inl _) => rfl
      | .inr (.inr _) => rfl
    have e2 : lv_args i (w :: t) = (i, w) :: lv_args (i + q_ct v) t := by
      show (i, w) :: lv_args (if w.category = 2 then i + 2 else i + 1) t = _
      rw [e]
    rw [e2]
    have eg : g_get ((i, w) :: lv_args (i + q_ct v) t) j = if i = j then some w else g_get (lv_args (i + q_ct v) t) j := by
      unfold g_get
      by_cases hq : i = j
      · simp [hq]
      · simp [hq]
    rw [eg]
    cases hb : Nat.beq i j with
    | true =>
      rw [hb] at hj
      cases hj
      rw [if_pos (q_beq hb)]
      exact ⟨_, rfl, h1⟩
    | false =>
      rw [hb] at hj
      rw [if_neg (fun e => by rw [e] at hb; simp at hb)]
      exact v_args_ok h2 _ j u hj
  | [], _ :: _, h, _ => h.elim
  | _ :: _, [], h, _ => h.elim
section VQ
variable {X : v_X} {ih : v_Ih} {O : List v_Oe} {d μ : Nat} {M : g_M} {pc : Nat} {ls : q_L} {st : List q_V} {A : v_A} {K : v_K} {ρ : List Int} {lc : g_Lc} {sc : List Value} {S : v_Sf} {R : v_Rf} {ins : Instr} {len x y : Nat} {z : Int}
theorem v_ts_ok {a : q_N} {r : List q_V} {v : Int32} {t : List Value} (ha : q_r ρ a v.toInt) (r4 : q_al2 (q_rv ρ) r t) (r3 : v_ra X ρ A S R) {df : Int} {k : Nat → List q_V → v_A → Bool} : ∀ (offs : List Int) (c : Int) (e : q_S), q_re ρ e → List.rec (motive := fun _ => Int → q_S → Bool) (fun _ e => k ((pc : Int) + df).toNat r (e, A.2)) (fun o _ ih c e => v_eq a (.inl c) e (fun e => k ((pc : Int) + o).toNat r (e, A.2)) (fun e => ih (c + 1) e)) offs c e = true → (∃ o e', q_re ρ e' ∧ c ≤ v.toInt ∧ offs[(v.toInt - c).toNat]? = some o ∧ k ((pc : Int) + o).toNat r (e', A.2) = true) ∨ ((v.toInt < c ∨ c + offs.length ≤ v.toInt) ∧ ∃ e', q_re ρ e' ∧ k ((pc : Int) + df).toNat r (e', A.2) = true)
  | [], c, e, he, h => Or.inr ⟨by simp; omega, e, he, h⟩
  | o :: offs, c, e, he, h => by
    have h : v_eq a (.inl c) e (fun e => k ((pc : Int) + o).toNat r (e, A.2)) (fun e => List.rec (motive := fun _ => Int → q_S → Bool) (fun _ e => k ((pc : Int) + df).toNat r (e, A.2)) (fun o _ ih c e => v_eq a (.inl c) e (fun e => k ((pc : Int) + o).toNat r (e, A.2)) (fun e => ih (c + 1) e)) offs (c + 1) e) = true := h
    rcases v_eq_ok he ha (b := .inl c) (y := c) rfl h with ⟨h1, e1, he1, h2⟩ | ⟨h1, e1, he1, h2⟩
    · refine Or.inl ⟨o, e1, he1, by omega, ?_, h2⟩
      have : (v.toInt - c).toNat = 0 := by omega
      rw [this]
      rfl
    · rcases v_ts_ok ha r4 r3 offs (c + 1) e1 he1 h2 with ⟨o2, e2, he2, g1, g2, g3⟩ | ⟨g1, e2, he2, g3⟩
      · refine Or.inl ⟨o2, e2, he2, by omega, ?_, g3⟩
        have : (v.toInt - c).toNat = (v.toInt - (c + 1)).toNat + 1 := by omega
        rw [this]
        simpa using g2
      · refine Or.inr ⟨?_, e2, he2, g3⟩
        simp only [List.length_cons]
        omega
theorem v_tsw_ok {df lo hi : Int} {offs : Array Int} (hS : v_Snd X ih) (hen : M.2.2.2.2.2 pc = some ((.tableswitch df lo hi offs, len), x, y, z)) (r1 : v_rl ρ ls lc) (r2 : q_al2 (q_rv ρ) st sc) (r3 : v_ra X ρ A S R) {C : v_Cx} (h : v_h_tableswitch df lo hi offs C ih O d μ M pc len x y z ls st A K = true) : v_Out X O d M pc lc sc S R ρ K := by
  unfold v_h_tableswitch at h
  split at h
  · rename_i a r
    obtain ⟨v, t, rfl, ha, r4⟩ := q_cons_i r2
    cases hc : (q_ieq hi (lo + (q_len offs.toList : Int) - 1) && ((offs.toList).all (fun o => q_ile 0 ((pc : Int) + o)) && q_ile 0 ((pc : Int) + df))) with
    | false => rw [hc] at h; cases h
    | true =>
      rw [hc] at h
      rw [Bool.and_eq_true, Bool.and_eq_true, q_ieq_ok, q_ile_ok, q_len_eq] at hc
      obtain ⟨c1, c2, c3⟩ := hc
      have tg : ∀ o : Int, 0 ≤ (pc : Int) + o → ∀ rr, g_tg pc (some o) rr = some (((pc : Int) + o).toNat, rr) := by
        intro o ho rr
        unfold g_tg
        dsimp only
        generalize (pc : Int) + o = w at ho
        cases w with
        | ofNat m => rfl
        | negSucc m => omega
      dsimp only [cond_true] at h
      rcases v_ts_ok (pc := pc) (df := df) (k := fun pc r A => ih O d μ M pc ls r A K) ha r4 r3 offs.toList lo A.1 r3.1 h with ⟨o, e, he, g1, g2, g3⟩ | ⟨g1, e, he, g3⟩
      · have hlt := (List.getElem?_eq_some_iff.mp g2).1
        have ho : 0 ≤ (pc : Int) + o := by
          have := List.all_eq_true.mp c2 o (List.mem_of_getElem? g2)
          rwa [q_ile_ok] at this
        refine v_go hS hen (g_st_jmp (en := ((.tableswitch df lo hi offs, len), x, y, z)) (q := (((pc : Int) + o).toNat, t)) rfl rfl ?_) (q_px_rf ρ) r1 r4 (v_ra_env r3 (q_px_rf ρ) he) g3
        have hn : ¬ (v.toInt < lo ∨ hi < v.toInt) := by omega
        have g2' : offs[(v.toInt - lo).toNat]? = some o := by rw [← Array.getElem?_toList]; exact g2
        simp only [g_jmp, if_neg hn, g2']
        exact tg o ho t
      · refine v_go hS hen (g_st_jmp (en := ((.tableswitch df lo hi offs, len), x, y, z)) (q := (((pc : Int) + df).toNat, t)) rfl rfl ?_) (q_px_rf ρ) r1 r4 (v_ra_env r3 (q_px_rf ρ) he) g3
        have hn : v.toInt < lo ∨ hi < v.toInt := by omega
        simp only [g_jmp, if_pos hn]
        exact tg df c3 t
  · cases h
theorem v_lk_ok {a : q_N} {r : List q_V} {v : Int32} (ha : q_r ρ a v.toInt) {df : Int} {k : Nat → List q_V → v_A → Bool} : ∀ (ps : List (Int × Int)) (e : q_S), q_re ρ e → List.rec (motive := fun _ => q_S → Bool) (fun e => k ((pc : Int) + df).toNat r (e, A.2)) (fun o _ ih e => v_eq a (.inl o.1) e (fun e => k ((pc : Int) + o.2).toNat r (e, A.2)) (fun e => ih e)) ps e = true → ∃ e', q_re ρ e' ∧ ((Op.lookupswitch.offset ps df v.toInt = df) ∨ ∃ q ∈ ps, Op.lookupswitch.offset ps df v.toInt = q.2) ∧ k ((pc : Int) + Op.lookupswitch.offset ps df v.toInt).toNat r (e', A.2) = true
  | [], e, he, h => ⟨e, he, Or.inl rfl, h⟩
  | o :: ps, e, he, h => by
    have h : v_eq a (.inl o.1) e (fun e => k ((pc : Int) + o.2).toNat r (e, A.2)) (fun e => List.rec (motive := fun _ => q_S → Bool) (fun e => k ((pc : Int) + df).toNat r (e, A.2)) (fun o _ ih e => v_eq a (.inl o.1) e (fun e => k ((pc : Int) + o.2).toNat r (e, A.2)) (fun e => ih e)) ps e) = true := h
    have eo : Op.lookupswitch.offset (o :: ps) df v.toInt = if o.1 = v.toInt then o.2 else Op.lookupswitch.offset ps df v.toInt := rfl
    rw [eo]
    rcases v_eq_ok he ha (b := .inl o.1) (y := o.1) rfl h with ⟨h1, e1, he1, h2⟩ | ⟨h1, e1, he1, h2⟩
    · rw [if_pos h1.symm]
      exact ⟨e1, he1, Or.inr ⟨o, List.mem_cons_self, rfl⟩, h2⟩
    · rw [if_neg (fun hh => h1 hh.symm)]
      obtain ⟨e2, he2, g1, g2⟩ := v_lk_ok ha ps e1 he1 h2
      refine ⟨e2, he2, ?_, g2⟩
      rcases g1 with g1 | ⟨q, g1, g3⟩
      · exact Or.inl g1
      · exact Or.inr ⟨q, List.mem_cons_of_mem _ g1, g3⟩
theorem v_lsw_ok {df : Int} {ps : Array (Int × Int)} {C : v_Cx} (hS : v_Snd X ih) (hen : M.2.2.2.2.2 pc = some ((.lookupswitch df ps, len), x, y, z)) (r1 : v_rl ρ ls lc) (r2 : q_al2 (q_rv ρ) st sc) (r3 : v_ra X ρ A S R) (h : v_h_lookupswitch df ps C ih O d μ M pc len x y z ls st A K = true) : v_Out X O d M pc lc sc S R ρ K := by
  unfold v_h_lookupswitch at h
  split at h
  · rename_i a r
    obtain ⟨v, t, rfl, ha, r4⟩ := q_cons_i r2
    replace h := q_bifc h
    obtain ⟨hc, h⟩ := h
    rw [Bool.and_eq_true, Bool.and_eq_true, q_ile_ok] at hc
    obtain ⟨c1, c2, c3⟩ := hc
    have tg : ∀ o : Int, 0 ≤ (pc : Int) + o → ∀ rr, g_tg pc (some o) rr = some (((pc : Int) + o).toNat, rr) := by
      intro o ho rr
      unfold g_tg
      dsimp only
      generalize (pc : Int) + o = w at ho
      cases w with
      | ofNat m => rfl
      | negSucc m => omega
    obtain ⟨e, he, g1, g2⟩ := v_lk_ok (pc := pc) (df := df) (k := fun pc r A => ih O d μ M pc ls r A K) ha ps.toList A.1 r3.1 h
    have ho : 0 ≤ (pc : Int) + Op.lookupswitch.offset ps.toList df v.toInt := by
      rcases g1 with g1 | ⟨q, g1, g3⟩
      · rw [g1]; exact c3
      · rw [g3]
        have := List.all_eq_true.mp c2 q g1
        rwa [q_ile_ok] at this
    refine v_go hS hen (g_st_jmp (en := ((.lookupswitch df ps, len), x, y, z)) (q := (((pc : Int) + Op.lookupswitch.offset ps.toList df v.toInt).toNat, t)) rfl rfl ?_) (q_px_rf ρ) r1 r4 (v_ra_env r3 (q_px_rf ρ) he) g2
    simp only [g_jmp]
    rw [if_pos c1]
    exact tg _ ho t
  · cases h
theorem v_rt_ok (hS : v_Snd X ih) (hen : M.2.2.2.2.2 pc = some ((ins, len), x, y, z)) (r1 : v_rl ρ ls lc) (r2 : q_al2 (q_rv ρ) st sc) (r3 : v_ra X ρ A S R) (h0 : g_step d M.2.2.2.1 X.1 X.2.1 ((ins, len), x, y, z) pc lc sc (v_mk X.2.2.1.1 S R) = none) (h : v_rt ins M.2.2.2.2.1 st A K = true) : v_Out X O d M pc lc sc S R ρ K := by
  have fin : ∀ (v : Option q_V) (r : Option Value), g_rt ins M.2.2.2.2.1 sc = some r → q_ro ρ v r → K v A = true → v_Out X O d M pc lc sc S R ρ K := fun v r hr ho hk Q hK hO => ⟨1, r, S, R, fun e => by rw [show 1 + e = e + 1 by omega]; exact g_run_ret hen h0 hr, hK ρ v A r S R (q_px_rf ρ) hk ho r3⟩
  unfold v_rt at h
  generalize M.2.2.2.2.1 = ret at h fin
  split at h
  · rename_i v
    obtain ⟨w, t, rfl, hw, r4⟩ := q_cons_i r2
    cases t with
    | cons _ _ => exact r4.elim
    | nil => exact fin (some (.inl v)) (some (.int w)) rfl ⟨_, rfl, hw⟩ h
  · rename_i v
    obtain ⟨w, t, rfl, hw, r4⟩ := q_cons_i r2
    cases t with
    | cons _ _ => exact r4.elim
    | nil =>
      have hi := q_iv_ok r3.1 hw
      cases hx : (q_ile 0 (q_iv A.1 v).1 && q_ile (q_iv A.1 v).2 1) with
      | false => rw [hx] at h; cases h
      | true =>
        rw [hx] at h
        rw [Bool.and_eq_true, q_ile_ok, q_ile_ok] at hx
        have hn : narrow .boolean (.int w) = .int w := by
          have : w.toInt = 0 ∨ w.toInt = 1 := by omega
          rcases this with e | e
          · have : w = 0 := q_inj (by rw [e]; rfl)
            subst this
            rfl
          · have : w = 1 := q_inj (by rw [e]; rfl)
            subst this
            rfl
        refine fin (some (.inl v)) (some (.int w)) ?_ ⟨_, rfl, hw⟩ h
        simp only [g_rt]
        rw [if_pos hn]
  · rename_i v
    obtain ⟨t, rfl, r4⟩ := q_cons_r r2
    cases t with
    | cons _ _ => exact r4.elim
    | nil =>
      cases v with
      | none => exact fin (some (.inr (.inr none))) (some .null) rfl rfl h
      | some a => exact fin (some (.inr (.inr (some a)))) (some (.ref a)) rfl rfl h
  · cases sc with
    | cons _ _ => exact r2.elim
    | nil => exact fin none none rfl trivial h
  · cases h
/-- a call: the callee's road, then the caller's -/
theorem v_call (hH : v_HkOk X) {kd d' : Nat} {M' : g_M} {as r : List q_V} {q : List Value × List Value} (hS : v_Snd X ih) (hen : M.2.2.2.2.2 pc = some ((ins, len), x, y, z)) (r1 : v_rl ρ ls lc) (r3 : v_ra X ρ A S R) (h0 : g_step (d' + 1) M.2.2.2.1 X.1 X.2.1 ((ins, len), x, y, z) pc lc sc (v_mk X.2.2.1.1 S R) = none) (h1 : g_rt ins M.2.2.2.2.1 sc = none) (h2 : g_ki ins = some kd) (hx : x < 77777) (hM' : g_mt x = some M') (h5 : g_cl kd y M'.1 sc (v_mk X.2.2.1.1 S R) = some q) (ra : q_al2 (q_rv ρ) as q.1) (rr : q_al2 (q_rv ρ) r q.2) (hc1 : q_lsl r ≤ 8) (hc2 : q_lsl as ≤ M'.2.2.2.1)
    (h : v_ivc X.2.2.1 ih d' x M' A as (fun v A' => ih O (Nat.succ d') μ M (pc + 3) ls (q_pr v r) A' K) = true) : v_Out X O (d' + 1) M pc lc sc S R ρ K := by
  intro Q hK hO
  have hKc : v_KOk X ρ (fun v A' => ih O (Nat.succ d') μ M (pc + 3) ls (q_pr v r) A' K) (fun rv S1 R1 => v_Tm X (d' + 1) M (pc + 3) lc (rv.toList ++ q.2) S1 R1 Q) := by
    intro ρ1 v A1 rv S1 R1 a2 a5 a3 a4
    have rr2 : q_al2 (q_rv ρ1) (q_pr v r) (rv.toList ++ q.2) := by
      match v, rv, a3 with
      | none, none, _ => exact q_st_px a2 rr
      | some v, some w, a3 => exact And.intro a3 (q_st_px a2 rr)
      | none, some w, a3 => exact a3.elim
      | some v, none, a3 => exact a3.elim
    exact hS O (d' + 1) μ M (pc + 3) ls _ A1 K a5 ρ1 lc _ S1 R1 (v_rl_px a2 r1) rr2 a4 Q (v_KOk_px a2 hK) (v_OOk_px a2 hO)
  have key : v_Tm X d' M' 0 (lv_args 0 q.1) [] S R (fun rv S1 R1 => v_Tm X (d' + 1) M (pc + 3) lc (rv.toList ++ q.2) S1 R1 Q) := by
    unfold v_ivc at h
    split at h
    · rename_i bb hb
      subst h
      exact hH d' x as A _ hb M' ρ q.1 S R _ hM' ra r3 hKc
    · exact hS [] d' x M' 0 (q_args 0 as) [] A _ h ρ (lv_args 0 q.1) [] S R (v_args_ok ra 0) trivial r3 _ hKc (fun h hh => by cases hh)
  obtain ⟨n0, rv, S1, R1, a1, n1, rw1, S2, R2, b1, b2⟩ := key
  have hx9 : (x == 99999) = false := by simp; omega
  refine ⟨n0 + n1 + 1, rw1, S2, R2, fun e => ?_, b2⟩
  rw [show n0 + n1 + 1 + e = n0 + (n1 + e) + 1 by omega]
  rw [g_run_call hen h0 h1 h2 hx9 hM' h5 (by rw [q_lsl_ok rr]; exact hc1) (by rw [q_lgsl_ok, q_lsl_ok ra]; exact hc2) (a1 (n1 + e)), show n0 + (n1 + e) = n1 + (n0 + e) by omega]
  exact b1 _
theorem v_ivk_ok (hX : v_XOk X) (hH : v_HkOk X) {kd : Nat} (hS : v_Snd X ih) (hen : M.2.2.2.2.2 pc = some ((ins, len), x, y, z)) (r1 : v_rl ρ ls lc) (r2 : q_al2 (q_rv ρ) st sc) (r3 : v_ra X ρ A S R) (h0 : ∀ d', g_step (d' + 1) M.2.2.2.1 X.1 X.2.1 ((ins, len), x, y, z) pc lc sc (v_mk X.2.2.1.1 S R) = none) (h1 : g_rt ins M.2.2.2.2.1 sc = none) (h2 : g_ki ins = some kd) (hx : x < 77777) (h : v_ivk X.2.2.1 ih kd O d μ M pc ls x y st A K = true) : v_Out X O d M pc lc sc S R ρ K := by
  unfold v_ivk at h
  split at h
  · cases h
  · rename_i M' hM'
    split at h
    · cases h
    · rename_i d'
      obtain ⟨as, r, g1, g2, g3, g4⟩ := q_tk_ok (k := _) y [] st [] sc trivial r2 h
      rw [List.append_nil] at g2
      have hy : decide (y ≤ sc.length) = true := by simpa using g1
      cases hk0 : Nat.beq kd 0 with
      | true =>
        rw [hk0] at g4
        have e0 := q_beq hk0
        subst e0
        dsimp only [cond_true] at g4
        unfold v_ivs at g4
        cases hc : (Nat.ble (q_lsl r) 8 && Nat.ble (q_lsl as) M'.2.2.2.1) with
        | false => rw [hc] at g4; cases g4
        | true =>
          rw [hc] at g4
          rw [Bool.and_eq_true, Nat.ble_eq, Nat.ble_eq] at hc
          have e5 : g_cl 0 y M'.1 sc (v_mk X.2.2.1.1 S R) = some ((sc.take y).reverse, sc.drop y) := by
            simp only [g_cl, hy, cond_true]
          exact v_call hH hS hen r1 r3 (h0 d') h1 h2 hx hM' e5 g2 g3 hc.1 hc.2 g4
      | false =>
        rw [hk0] at g4
        dsimp only [cond_false] at g4
        unfold v_ivr at g4
        split at g4
        · rename_i a r2'
          obtain ⟨t, ht, r5⟩ := q_cons_r g3
          cases hr : v_rcv X.2.2.1 a x with
          | false => rw [hr] at g4; cases g4
          | true =>
            rw [hr] at g4
            dsimp only [cond_true] at g4
            unfold v_ivs at g4
            cases hc : (Nat.ble (q_lsl r2') 8 && Nat.ble (q_lsl (.inr (.inr (some (Nat.succ a))) :: as)) M'.2.2.2.1) with
            | false => rw [hc] at g4; cases g4
            | true =>
              rw [hc] at g4
              rw [Bool.and_eq_true, Nat.ble_eq, Nat.ble_eq] at hc
              have ra : q_al2 (q_rv ρ) (.inr (.inr (some (Nat.succ a))) :: as) (.ref (a + 1) :: (sc.take y).reverse) := And.intro rfl g2
              have e5 : g_cl kd y M'.1 sc (v_mk X.2.2.1.1 S R) = some (.ref (a + 1) :: (sc.take y).reverse, t) := by
                have hd : sc.drop y = .ref (a + 1) :: t := ht
                match kd, hk0, hr with
                | 0, hk0, _ => cases hk0
                | 1, _, hr =>
                  have c5 : v_rcv X.2.2.1 a x = true := hr
                  unfold v_rcv at c5
                  split at c5
                  · rename_i ci fs hg
                    have k1 := v_mk_at hX hg S R
                    split at c5
                    · rename_i o ho
                      rw [Bool.and_eq_true] at c5
                      have hci := q_blt c5.2
                      obtain ⟨qc, hqc⟩ := q_vw ci hci
                      rw [q_nth_eq] at ho
                      have hcn : qc.1 = M'.1 := by
                        rw [q_cn ci qc hci hqc, g_oc_ok x o M' hM' ho, q_beq c5.1]
                      simp only [g_cl, hd, k1, v_cell, hqc]
                      rw [if_pos ⟨hcn, g1⟩]
                    · cases c5
                  · cases c5
                | m + 2, _, _ => simp only [g_cl, hd, hy, cond_true]
              exact v_call hH hS hen r1 r3 (h0 d') h1 h2 hx hM' e5 ra r5 hc.1 hc.2 g4
        · cases g4
end VQ
theorem q_bip {c : Int} (h : Nat.blt c.natAbs 128 = true) : (Int8.ofInt c).toInt32.toInt = c := by
  have h := q_blt h
  rw [Int8.toInt_toInt32, Int8.toInt_ofInt]
  have e : (Int8.size : Int) = 256 := rfl
  exact Int.bmod_eq_of_le (by omega) (by omega)
theorem q_sip {c : Int} (h : Nat.blt c.natAbs 32768 = true) : (Int16.ofInt c).toInt32.toInt = c := by
  have h := q_blt h
  rw [Int16.toInt_toInt32, Int16.toInt_ofInt]
  have e : (Int16.size : Int) = 65536 := rfl
  exact Int.bmod_eq_of_le (by omega) (by omega)
theorem q_ldk {c : Int} (h : Nat.blt c.natAbs 2147483648 = true) : (Int32.ofInt c).toInt = c := by
  have h := q_blt h
  exact q_ofr (by omega) (by omega)
theorem q_ldk2 {c : Int} (h : Nat.blt c.natAbs 2147483648 = true) : (Int64.ofInt c).toInt = c := by
  have h := q_blt h
  rw [Int64.toInt_ofInt]
  have e : (Int64.size : Int) = 18446744073709551616 := rfl
  exact Int.bmod_eq_of_le (by omega) (by omega)
theorem q_i2l (v : Int32) : v.toInt64.toInt = v.toInt := by simp
theorem q_dec_t {P : Prop} [Decidable P] (h : P) : (decide P) = true := by simpa using h
theorem q_dec_f {P : Prop} [Decidable P] (h : ¬ P) : (decide P) = false := by simpa using h
theorem g_ixF_b (c : Int32) : ∀ (l : List Int32) (k : Nat), k + l.length ≤ 100 → -1 ≤ (g_ixF c l (Int32.ofInt (k : Int))).toInt ∧ (g_ixF c l (Int32.ofInt (k : Int))).toInt ≤ (k : Int) + l.length - 1
  | [], k, h => by
    show -1 ≤ (-1 : Int32).toInt ∧ (-1 : Int32).toInt ≤ _
    have e : (-1 : Int32).toInt = -1 := rfl
    rw [e]
    simp
    omega
  | b :: l, k, h => by
    have e1 : (Int32.ofInt (k : Int)).toInt = (k : Int) := q_ofr (by omega) (by simp at h; omega)
    have e2 : Int32.ofInt (k : Int) + 1 = Int32.ofInt ((k + 1 : Nat) : Int) := by
      have : (1 : Int32) = Int32.ofInt 1 := rfl
      rw [this, ← Int32.ofInt_add]
      rfl
    have ih := g_ixF_b c l (k + 1) (by simp at h; omega)
    simp only [List.length_cons] at h ⊢
    rw [g_ixF]
    split
    · rw [e1]; omega
    · rw [e2]; omega
theorem g_ixo_b (v : Int32) : -1 ≤ (g_ixo v).toInt ∧ (g_ixo v).toInt ≤ 14 := by
  have h := g_ixF_b ((v.toUInt32 % 65536).toInt32) [115, 113, 116, 104, 100, 119, 111, 112, 108, 97, 110, 118, 117, 122, 109] 0 (by decide)
  exact h
theorem v_mac_ok {X : v_X} {ih : v_Ih} {O : List v_Oe} {d μ : Nat} {M : g_M} {pc : Nat} {ls : q_L} {st : List q_V} {A : v_A} {K : v_K} {ρ : List Int} {lc : g_Lc} {sc : List Value} {S : v_Sf} {R : v_Rf} (hS : v_Snd X ih) (hen : M.2.2.2.2.2 pc = none) (r1 : v_rl ρ ls lc) (r2 : q_al2 (q_rv ρ) st sc) (r3 : v_ra X ρ A S R) (h : v_mac ih O d μ M pc ls st A K = true) : v_Out X O d M pc lc sc S R ρ K := by
  unfold v_mac at h
  split at h
  · rename_i a0 hg
    obtain ⟨w, g1, u, rfl, g2⟩ := r1 2 _ hg
    cases sc with
    | cons _ _ => exact r2.elim
    | nil =>
      replace h := q_bifc h
      obtain ⟨hc, h⟩ := h
      rw [Bool.and_eq_true, Bool.and_eq_true, Nat.ble_eq, decide_eq_true_eq] at hc
      obtain ⟨c1, c2, c3⟩ := hc
      have e := q_beq c1
      subst e
      obtain ⟨n1, n2, n3⟩ := q_new_ok r3.1 (e := (-1, 14, 0, .inl 0, .inl 0)) (g_ixo_b u).1 (g_ixo_b u).2 (Or.inl rfl)
      intro Q hK hO
      refine v_pre 0 (fun e => ?_) (hS O d μ M 20 ls [.inl (.inr (q_len A.1))] (_, A.2) K h _ lc [.int (g_ixo u)] S R (v_rl_px n1 r1) ⟨⟨_, rfl, n3⟩, trivial⟩ (v_ra_env r3 n1 n2) Q (v_KOk_px n1 hK) (v_OOk_px n1 hO))
      rw [show 0 + 1 + e = e + 1 by omega, show 0 + e = e by omega, g_run]
      have hm : g_mac d M 13 lc [] = some [.int (g_ixo u)] := by
        unfold g_mac
        rw [if_pos ⟨c3.1, c3.2.1, c3.2.2, rfl, rfl, c2⟩]
        simp only [g1]
      simp only [hen, hm]
  · cases h
set_option maxHeartbeats 4000000 in
theorem v_one_ok {X : v_X} {ih : v_Ih} (hX : v_XOk X) (hH : v_HkOk X) (hS : v_Snd X ih) : v_Snd X (v_one X.2.2.1 ih) := by
  intro O d μ M pc ls st A K h ρ lc sc S R r1 r2 r3
  unfold v_one at h
  split at h
  · rename_i hen
    exact v_mac_ok hS hen r1 r2 r3 h
  · rename_i en hen
    obtain ⟨⟨ins, len⟩, x, y, z⟩ := en
    dsimp only at h
    unfold v_disp at h
    split at h
    · unfold v_h_iconst at h
      obtain ⟨h1, h2⟩ := q_bifc h
      exact v_const_ok (v := .inl (.inl _)) ⟨_, rfl, q_ldk (by rw [Nat.blt_eq] at h1 ⊢; omega)⟩ hS hen r1 r2 r3 rfl h2
    · unfold v_h_bipush at h
      obtain ⟨h1, h2⟩ := q_bifc h
      exact v_const_ok (v := .inl (.inl _)) ⟨_, rfl, q_bip h1⟩ hS hen r1 r2 r3 rfl h2
    · unfold v_h_sipush at h
      obtain ⟨h1, h2⟩ := q_bifc h
      exact v_const_ok (v := .inl (.inl _)) ⟨_, rfl, q_sip h1⟩ hS hen r1 r2 r3 rfl h2
    · unfold v_h_ldc at h
      obtain ⟨h1, h2⟩ := q_bifc h
      exact v_const_ok (v := .inl (.inl z)) ⟨_, rfl, q_ldk h1⟩ hS hen r1 r2 r3 rfl h2
    · unfold v_h_ldc_w at h
      obtain ⟨h1, h2⟩ := q_bifc h
      exact v_const_ok (v := .inl (.inl z)) ⟨_, rfl, q_ldk h1⟩ hS hen r1 r2 r3 rfl h2
    · unfold v_h_ldc2_w at h
      obtain ⟨h1, h2⟩ := q_bifc h
      exact v_const_ok (v := .inr (.inl (.inl z))) ⟨_, rfl, q_ldk2 h1⟩ hS hen r1 r2 r3 rfl h2
    · rename_i k
      refine v_const_ok (v := .inr (.inl (.inl ((k : Nat) : Int)))) ⟨_, rfl, ?_⟩ hS hen r1 r2 r3 rfl h
      show (Int64.ofNat (k : Nat)).toInt = ((k : Nat) : Int)
      exact pk_lT (by omega)
    · exact v_ld_ok hS hen r1 r2 r3 rfl (fun v h1 h2 => q_ldi_l h1 h2) h
    · exact v_ld_ok hS hen r1 r2 r3 rfl (fun v h1 h2 => q_ldi_l h1 h2) h
    · exact v_ld_ok hS hen r1 r2 r3 rfl (fun v h1 h2 => q_lda_l h1 h2) h
    · exact v_ld_ok hS hen r1 r2 r3 rfl (fun v h1 h2 => q_lda_l h1 h2) h
    · exact v_ld_ok hS hen r1 r2 r3 rfl (fun v h1 h2 => q_ldl_l h1 h2) h
    · exact v_ld_ok hS hen r1 r2 r3 rfl (fun v h1 h2 => q_ldl_l h1 h2) h
    · exact v_st_ok hS hen r1 r2 r3 rfl (fun v t h1 h2 h3 => by subst h1; exact q_sti_l h2 h3) h
    · exact v_st_ok hS hen r1 r2 r3 rfl (fun v t h1 h2 h3 => by subst h1; exact q_sti_l h2 h3) h
    · exact v_st_ok hS hen r1 r2 r3 rfl (fun v t h1 h2 h3 => by subst h1; exact q_sta_l h2 h3) h
    · exact v_st_ok hS hen r1 r2 r3 rfl (fun v t h1 h2 h3 => by subst h1; exact q_sta_l h2 h3) h
    · exact v_inc_ok hS hen r1 r2 r3 h
    · exact v_i2_ok (op := 1) (by decide) hS hen r1 r2 r3 (fun _ => rfl) h
    · exact v_i2_ok (op := 2) (by decide) hS hen r1 r2 r3 (fun _ => rfl) h
    · exact v_i2_ok (op := 3) (by decide) hS hen r1 r2 r3 (fun _ => rfl) h
    · exact v_i2_ok (op := 4) (by decide) hS hen r1 r2 r3 (fun _ => rfl) h
    · exact v_i2_ok (op := 5) (by decide) hS hen r1 r2 r3 (fun _ => rfl) h
    · exact v_i2_ok (op := 6) (by decide) hS hen r1 r2 r3 (fun _ => rfl) h
    · exact v_i2_ok (op := 7) (by decide) hS hen r1 r2 r3 (fun _ => rfl) h
    · exact v_i2_ok (op := 8) (by decide) hS hen r1 r2 r3 (fun _ => rfl) h
    · exact v_i2_ok (op := 9) (by decide) hS hen r1 r2 r3 (fun _ => rfl) h
    · exact v_d2_ok (op := 10) (by decide) hS hen r1 r2 r3 (fun _ => rfl) h
    · exact v_d2_ok (op := 11) (by decide) hS hen r1 r2 r3 (fun _ => rfl) h
    · exact v_u1_ok (f := fun v => -v) (fun v => q_rng _) hS hen r1 r2 r3 (fun _ => rfl) h
    · refine v_u1_ok (f := fun v => v.toInt8.toInt32) (fun v => ?_) hS hen r1 r2 r3 (fun _ => rfl) h
      rw [Int8.toInt_toInt32]
      have h1 := BitVec.le_toInt v.toInt8.toBitVec
      have h2 := BitVec.toInt_lt (x := v.toInt8.toBitVec)
      have e : v.toInt8.toInt = v.toInt8.toBitVec.toInt := rfl
      rw [e]
      constructor <;> omega
    · refine v_u1_ok (f := fun v => (v.toUInt32 % 65536).toInt32) (fun v => ?_) hS hen r1 r2 r3 (fun _ => rfl) h
      have e := pk_char v
      have hm : v.toBitVec.toNat % 65536 < 65536 := Nat.mod_lt _ (by decide)
      show 0 ≤ ((v.toUInt32 % 65536).toInt32).toInt ∧ ((v.toUInt32 % 65536).toInt32).toInt ≤ 65535
      rw [e, nI_toInt (by omega)]
      constructor <;> omega
    · unfold v_h_i2l at h
      split at h
      · rename_i a0 r0
        obtain ⟨v, t, rfl, ha, r4⟩ := q_cons_i r2
        exact v_stk hS hen r1 (q_px_rf ρ) (st' := .inr (.inl a0) :: r0) (sc' := .long v.toInt64 :: t) (And.intro ⟨_, rfl, by rw [q_i2l]; exact ha⟩ r4) r3 rfl h
      · cases h
    · exact v_cm_ok hS hen r1 r2 r3 h
    · unfold v_h_dup at h
      split at h
      · rename_i v0 r0
        obtain ⟨h1, h2⟩ := q_bifc h
        obtain ⟨w, t, rfl, hw, r4⟩ := q_cons r2
        have hc : w.category = 1 := by rw [q_cat hw]; exact q_beq h1
        exact v_stk hS hen r1 (q_px_rf ρ) (st' := v0 :: v0 :: r0) (sc' := w :: w :: t) (And.intro hw (And.intro hw r4)) r3 (by simp only [g_stk, g_dp, if_pos hc]) h2
      · cases h
    · unfold v_h_dup2 at h
      split at h
      · rename_i v0 w0 r0
        obtain ⟨h1, h2⟩ := q_bifc h
        rw [Bool.and_eq_true] at h1
        obtain ⟨w, t, rfl, hw, r4⟩ := q_cons r2
        obtain ⟨u, t, rfl, hu, r5⟩ := q_cons r4
        have hc : w.category = 1 ∧ u.category = 1 := ⟨by rw [q_cat hw]; exact q_beq h1.1, by rw [q_cat hu]; exact q_beq h1.2⟩
        exact v_stk hS hen r1 (q_px_rf ρ) (st' := v0 :: w0 :: v0 :: w0 :: r0) (sc' := w :: u :: w :: u :: t) (And.intro hw (And.intro hu (And.intro hw (And.intro hu r5)))) r3 (by simp only [g_stk, g_dd]; rw [if_pos hc]) h2
      · cases h
    · unfold v_h_pop at h
      split at h
      · obtain ⟨h1, h2⟩ := q_bifc h
        obtain ⟨w, t, rfl, hw, r4⟩ := q_cons r2
        have hc : w.category = 1 := by rw [q_cat hw]; exact q_beq h1
        exact v_stk hS hen r1 (q_px_rf ρ) (sc' := t) r4 r3 (by simp only [g_stk, g_po, if_pos hc]) h2
      · cases h
    · exact v_const_ok (v := .inr (.inr none)) (w := .null) rfl hS hen r1 r2 r3 rfl h
    · exact v_go hS hen (g_st_jmp (en := ((.goto _, len), x, y, z)) (q := (x, sc)) rfl rfl rfl) (q_px_rf ρ) r1 r2 r3 h
    · exact v_b1_ok (P := fun v => v = 0) (tt := x) (ff := (pc + 3)) (fun a v env kt kf he ha hh => v_ceq a (.inl 0) v 0 env kt kf he ha rfl hh) hS hen r1 r2 r3 rfl rfl (fun v t e hp => by subst e; show some (bif decide (v = 0) then x else pc + 3, t) = _; rw [q_dec_t hp]; rfl) (fun v t e hp => by subst e; show some (bif decide (v = 0) then x else pc + 3, t) = _; rw [q_dec_f hp]; rfl) h
    · exact v_b1_ok (P := fun v => v = 0) (tt := (pc + 3)) (ff := x) (fun a v env kt kf he ha hh => v_ceq a (.inl 0) v 0 env kt kf he ha rfl hh) hS hen r1 r2 r3 rfl rfl (fun v t e hp => by subst e; show some (bif decide (¬ v = 0) then x else pc + 3, t) = _; rw [q_dec_f (fun hh => hh hp)]; rfl) (fun v t e hp => by subst e; show some (bif decide (¬ v = 0) then x else pc + 3, t) = _; rw [q_dec_t hp]; rfl) h
    · exact v_b1_ok (P := fun v => v < 0) (tt := x) (ff := (pc + 3)) (fun a v env kt kf he ha hh => v_clt a (.inl 0) v 0 env kt kf he ha rfl hh) hS hen r1 r2 r3 rfl rfl (fun v t e hp => by subst e; show some (bif decide (v < 0) then x else pc + 3, t) = _; rw [q_dec_t hp]; rfl) (fun v t e hp => by subst e; show some (bif decide (v < 0) then x else pc + 3, t) = _; rw [q_dec_f hp]; rfl) h
    · exact v_b1_ok (P := fun v => v < 0) (tt := (pc + 3)) (ff := x) (fun a v env kt kf he ha hh => v_clt a (.inl 0) v 0 env kt kf he ha rfl hh) hS hen r1 r2 r3 rfl rfl (fun v t e hp => by subst e; show some (bif decide (0 ≤ v) then x else pc + 3, t) = _; rw [q_dec_f (fun hh => by rw [q_le32] at hh; rw [q_lt32] at hp; omega)]; rfl) (fun v t e hp => by subst e; show some (bif decide (0 ≤ v) then x else pc + 3, t) = _; rw [q_dec_t (by rw [q_lt32] at hp; rw [q_le32]; omega)]; rfl) h
    · exact v_b1_ok (P := fun v => 0 < v) (tt := x) (ff := (pc + 3)) (fun a v env kt kf he ha hh => v_cgt a (.inl 0) v 0 env kt kf he ha rfl hh) hS hen r1 r2 r3 rfl rfl (fun v t e hp => by subst e; show some (bif decide (0 < v) then x else pc + 3, t) = _; rw [q_dec_t hp]; rfl) (fun v t e hp => by subst e; show some (bif decide (0 < v) then x else pc + 3, t) = _; rw [q_dec_f hp]; rfl) h
    · exact v_b1_ok (P := fun v => 0 < v) (tt := (pc + 3)) (ff := x) (fun a v env kt kf he ha hh => v_cgt a (.inl 0) v 0 env kt kf he ha rfl hh) hS hen r1 r2 r3 rfl rfl (fun v t e hp => by subst e; show some (bif decide (v ≤ 0) then x else pc + 3, t) = _; rw [q_dec_f (fun hh => by rw [q_le32] at hh; rw [q_lt32] at hp; omega)]; rfl) (fun v t e hp => by subst e; show some (bif decide (v ≤ 0) then x else pc + 3, t) = _; rw [q_dec_t (by rw [q_lt32] at hp; rw [q_le32]; omega)]; rfl) h
    · exact v_b2_ok (P := fun v w => v = w) (tt := x) (ff := (pc + 3)) (fun a b v w env kt kf he ha hb hh => v_ceq a b v w env kt kf he ha hb hh) hS hen r1 r2 r3 rfl rfl (fun v w t e hp => by subst e; show some (bif decide (v = w) then x else pc + 3, t) = _; rw [q_dec_t hp]; rfl) (fun v w t e hp => by subst e; show some (bif decide (v = w) then x else pc + 3, t) = _; rw [q_dec_f hp]; rfl) h
    · exact v_b2_ok (P := fun v w => v = w) (tt := (pc + 3)) (ff := x) (fun a b v w env kt kf he ha hb hh => v_ceq a b v w env kt kf he ha hb hh) hS hen r1 r2 r3 rfl rfl (fun v w t e hp => by subst e; show some (bif decide (¬ v = w) then x else pc + 3, t) = _; rw [q_dec_f (fun hh => hh hp)]; rfl) (fun v w t e hp => by subst e; show some (bif decide (¬ v = w) then x else pc + 3, t) = _; rw [q_dec_t hp]; rfl) h
    · exact v_b2_ok (P := fun v w => v < w) (tt := x) (ff := (pc + 3)) (fun a b v w env kt kf he ha hb hh => v_clt a b v w env kt kf he ha hb hh) hS hen r1 r2 r3 rfl rfl (fun v w t e hp => by subst e; show some (bif decide (v < w) then x else pc + 3, t) = _; rw [q_dec_t hp]; rfl) (fun v w t e hp => by subst e; show some (bif decide (v < w) then x else pc + 3, t) = _; rw [q_dec_f hp]; rfl) h
    · exact v_b2_ok (P := fun v w => v < w) (tt := (pc + 3)) (ff := x) (fun a b v w env kt kf he ha hb hh => v_clt a b v w env kt kf he ha hb hh) hS hen r1 r2 r3 rfl rfl (fun v w t e hp => by subst e; show some (bif decide (w ≤ v) then x else pc + 3, t) = _; rw [q_dec_f (fun hh => by rw [q_le32] at hh; rw [q_lt32] at hp; omega)]; rfl) (fun v w t e hp => by subst e; show some (bif decide (w ≤ v) then x else pc + 3, t) = _; rw [q_dec_t (by rw [q_lt32] at hp; rw [q_le32]; omega)]; rfl) h
    · exact v_b2_ok (P := fun v w => w < v) (tt := x) (ff := (pc + 3)) (fun a b v w env kt kf he ha hb hh => v_cgt a b v w env kt kf he ha hb hh) hS hen r1 r2 r3 rfl rfl (fun v w t e hp => by subst e; show some (bif decide (w < v) then x else pc + 3, t) = _; rw [q_dec_t hp]; rfl) (fun v w t e hp => by subst e; show some (bif decide (w < v) then x else pc + 3, t) = _; rw [q_dec_f hp]; rfl) h
    · exact v_b2_ok (P := fun v w => w < v) (tt := (pc + 3)) (ff := x) (fun a b v w env kt kf he ha hb hh => v_cgt a b v w env kt kf he ha hb hh) hS hen r1 r2 r3 rfl rfl (fun v w t e hp => by subst e; show some (bif decide (v ≤ w) then x else pc + 3, t) = _; rw [q_dec_f (fun hh => by rw [q_le32] at hh; rw [q_lt32] at hp; omega)]; rfl) (fun v w t e hp => by subst e; show some (bif decide (v ≤ w) then x else pc + 3, t) = _; rw [q_dec_t (by rw [q_lt32] at hp; rw [q_le32]; omega)]; rfl) h
    · unfold v_h_ifnull at h
      split at h
      · obtain ⟨t, rfl, r4⟩ := q_cons_r r2
        exact v_go hS hen (g_st_jmp (en := ((.ifnull _, len), x, y, z)) (q := (x, t)) rfl rfl rfl) (q_px_rf ρ) r1 r4 r3 h
      · obtain ⟨t, rfl, r4⟩ := q_cons_r r2
        exact v_go hS hen (g_st_jmp (en := ((.ifnull _, len), x, y, z)) (q := (pc + 3, t)) rfl rfl rfl) (q_px_rf ρ) r1 r4 r3 h
      · cases h
    · unfold v_h_ifnonnull at h
      split at h
      · obtain ⟨t, rfl, r4⟩ := q_cons_r r2
        exact v_go hS hen (g_st_jmp (en := ((.ifnonnull _, len), x, y, z)) (q := (pc + 3, t)) rfl rfl rfl) (q_px_rf ρ) r1 r4 r3 h
      · obtain ⟨t, rfl, r4⟩ := q_cons_r r2
        exact v_go hS hen (g_st_jmp (en := ((.ifnonnull _, len), x, y, z)) (q := (x, t)) rfl rfl rfl) (q_px_rf ρ) r1 r4 r3 h
      · cases h
    · exact v_tsw_ok hS hen r1 r2 r3 h
    · exact v_lsw_ok hS hen r1 r2 r3 h
    · exact v_gf_ok hX hS hen r1 r2 r3 h
    · exact v_pf_ok hX hS hen r1 r2 r3 h
    · exact v_al_ok hX hS hen r1 r2 r3 h
    · exact v_ia_ok hX (b := false) hS hen r1 r2 r3 rfl h
    · exact v_ia_ok hX (b := true) hS hen r1 r2 r3 rfl h
    · exact v_aa_ok hX hS hen r1 r2 r3 h
    · exact v_is_ok hX (b := false) hS hen r1 r2 r3 rfl h
    · exact v_is_ok hX (b := true) hS hen r1 r2 r3 rfl h
    · unfold v_h_invokestatic at h
      cases h1 : Nat.blt x 77777 with
      | true =>
        rw [h1] at h
        refine v_ivk_ok hX hH hS hen r1 r2 r3 (fun d' => ?_) rfl rfl (q_blt h1) h
        show (match g_nv (d' + 1) x sc (v_mk X.2.2.1.1 S R) with
          | some q => _
          | none => none) = none
        rw [g_nv_none (q_blt h1)]
      | false =>
        rw [h1] at h
        dsimp only [cond_false] at h
        cases h2 : Nat.beq x 99998 with
        | true => rw [h2] at h; exact v_cp_ok hX hS hen r1 r2 r3 (q_beq h2) h
        | false =>
          rw [h2] at h
          dsimp only [cond_false] at h
          cases h3 : Nat.beq x 99997 with
          | true => rw [h3] at h; exact v_m2_ok (op := 12) (f := fun a b => if a < b then b else a) (by decide) (fun a b => rfl) (fun st σ => rfl) hS hen r1 r2 r3 (q_beq h3) h
          | false =>
            rw [h3] at h
            dsimp only [cond_false] at h
            cases h4 : Nat.beq x 99996 with
            | true => rw [h4] at h; exact v_m2_ok (op := 13) (f := fun a b => if b < a then b else a) (by decide) (fun a b => rfl) (fun st σ => rfl) hS hen r1 r2 r3 (q_beq h4) h
            | false =>
              rw [h4] at h
              dsimp only [cond_false] at h
              obtain ⟨h5, h6⟩ := q_bifc h
              exact v_m1_ok (f := fun a => if 0 ≤ a then a else 0 - a) (fun st σ => rfl) hS hen r1 r2 r3 (q_beq h5) h6
    · unfold v_h_invokevirtual at h
      obtain ⟨h1, h2⟩ := q_bifc h
      exact v_ivk_ok hX hH hS hen r1 r2 r3 (fun d' => rfl) rfl rfl (q_blt h1) h2
    · exact v_rt_ok hS hen r1 r2 r3 rfl h
    · exact v_rt_ok hS hen r1 r2 r3 rfl h
    · exact v_rt_ok hS hen r1 r2 r3 rfl h
    · cases h
