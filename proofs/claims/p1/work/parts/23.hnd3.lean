def q_okty (t : FieldType) : Bool := match t with
  | .float => false
  | .double => false
  | _ => true
theorem q_okX0 (j : Nat) : q_okty (tyX0 j) = true := by
  unfold tyX0
  split <;> rfl
theorem q_okX1 (j : Nat) : q_okty (tyX1 j) = true := by
  unfold tyX1
  split <;> rfl
theorem q_okX2 (j : Nat) : q_okty (tyX2 j) = true := by
  unfold tyX2
  split <;> rfl
theorem q_okX3 (j : Nat) : q_okty (tyX3 j) = true := by
  unfold tyX3
  split <;> rfl
theorem q_okX4 (j : Nat) : q_okty (tyX4 j) = true := by
  unfold tyX4
  split <;> rfl
theorem q_okX5 (j : Nat) : q_okty (tyX5 j) = true := by
  unfold tyX5
  split <;> rfl
theorem q_okX6 (j : Nat) : q_okty (tyX6 j) = true := by
  unfold tyX6
  split <;> rfl
theorem q_okX7 (j : Nat) : q_okty (tyX7 j) = true := by
  unfold tyX7
  split <;> rfl
theorem q_okX8 (j : Nat) : q_okty (tyX8 j) = true := by
  unfold tyX8
  split <;> rfl
theorem q_okX9 (j : Nat) : q_okty (tyX9 j) = true := by
  unfold tyX9
  split <;> rfl
theorem q_okX10 (j : Nat) : q_okty (tyX10 j) = true := by
  unfold tyX10
  split <;> rfl
theorem q_okX11 (j : Nat) : q_okty (tyX11 j) = true := by
  unfold tyX11
  split <;> rfl
theorem q_okX12 (j : Nat) : q_okty (tyX12 j) = true := by
  unfold tyX12
  split <;> rfl
theorem q_ty_ok (x j : Nat) : q_okty (g_ty x j) = true := by
  unfold g_ty
  split
  · exact q_okX0 j
  · exact q_okX1 j
  · exact q_okX2 j
  · exact q_okX3 j
  · exact q_okX4 j
  · exact q_okX5 j
  · exact q_okX6 j
  · exact q_okX7 j
  · exact q_okX8 j
  · exact q_okX9 j
  · exact q_okX10 j
  · exact q_okX11 j
  · exact q_okX12 j
theorem q_at_h {ρ : List Int} {N : Nat} {rows : q_H} {σ : List g_Ce} (h : q_rh ρ N rows σ) {a : Nat} (ha : Nat.blt a N = true) {c : q_C} (hc : q_get rows a = some c) : ∃ e, σ[a]? = some e ∧ q_rc ρ c e := by
  have hl : a < σ.length := by rw [h.1]; exact q_blt ha
  have h1 : σ[a]? = some σ[a] := List.getElem?_eq_getElem hl
  obtain ⟨d, h2, h3⟩ := h.2 a _ h1
  rw [hc] at h2
  cases h2
  exact ⟨_, h1, h3⟩
theorem q_rh_set {ρ : List Int} {N : Nat} {rows : q_H} {σ : List g_Ce} (h : q_rh ρ N rows σ) {a : Nat} {c0 c : q_C} {e : g_Ce} (hc : q_get rows a = some c0) (hr : q_rc ρ c e) : q_rh ρ N (q_wr rows a c) (σ.set a e) := by
  refine ⟨by rw [List.length_set]; exact h.1, fun b w hw => ?_⟩
  rw [q_get_wr rows a c hc b]
  by_cases hb : b = a
  · subst hb
    have hl : b < σ.length := by
      have := (List.getElem?_eq_some_iff.mp hw).1
      rw [List.length_set] at this
      exact this
    rw [List.getElem?_set_self hl] at hw
    cases hw
    exact ⟨c, by simp, hr⟩
  · rw [List.getElem?_set_ne (Ne.symm hb)] at hw
    obtain ⟨d, h2, h3⟩ := h.2 b w hw
    exact ⟨d, by simp [hb, h2], h3⟩
theorem q_rh_app {ρ : List Int} {N : Nat} {rows rows' : q_H} {σ : List g_Ce} (h : q_rh ρ N rows σ) {c : q_C} {e : g_Ce} (h1 : q_get rows' N = some c) (h2 : ∀ a, a < N → q_get rows' a = q_get rows a) (hr : q_rc ρ c e) : q_rh ρ (Nat.succ N) rows' (σ ++ [e]) := by
  refine ⟨by simp [h.1], fun b w hw => ?_⟩
  by_cases hb : b < σ.length
  · rw [List.getElem?_append_left hb] at hw
    obtain ⟨d, h3, h4⟩ := h.2 b w hw
    exact ⟨d, by rw [h2 b (by rw [← h.1]; exact hb)]; exact h3, h4⟩
  · rw [List.getElem?_append_right (by omega)] at hw
    have hz : b - σ.length < 1 := (List.getElem?_eq_some_iff.mp hw).1
    have e0 : b - σ.length = 0 := by omega
    rw [e0] at hw
    cases hw
    have eb : b = N := by rw [← h.1]; omega
    exact ⟨c, by rw [eb]; exact h1, hr⟩
theorem q_in32 {w : Int32} {n : Nat} (h1 : 0 ≤ w.toInt) (h2 : w.toInt < (n : Int)) : g_out w n = false ∧ w.toNatClampNeg = w.toInt.toNat := by
  refine ⟨?_, rfl⟩
  unfold g_out
  rw [decide_eq_false_iff_not]
  intro h
  rcases h with h | h
  · rw [q_lt32] at h
    have : (0 : Int32).toInt = 0 := rfl
    omega
  · have e : w.toNatClampNeg = w.toInt.toNat := rfl
    omega
section QP
variable {T : q_T} {L : Nat} {scr : List q_N} {xs : Nat → Int32} {ih : q_Ih} {d : Nat} {M : g_M} {pc : Nat} {ls : q_L} {st : List q_V} {A : q_A} {K : q_K} {ρ : List Int} {lc : g_Lc} {sc : List Value} {σ : List g_Ce} {ins : Instr} {len x y : Nat} {z : Int}
theorem q_hp {st' : List q_V} {A' : q_A} {q : List Value × List g_Ce} {ρ1 : List Int} (hS : q_Snd T L scr xs ih) (hd : d ≤ T.2.1) (hen : M.2.2.2.2.2 pc = some ((ins, len), x, y, z)) (r1 : q_rl ρ ls lc) (hp : q_px ρ ρ1) (h0 : g_stk ins z sc = none) (h1 : g_lcl M.2.2.2.1 ins lc sc = none) (h2 : g_jmp ins pc x sc = none) (hs : g_hp d L xs ins x y sc σ = some q) (r2 : q_al2 (q_rv ρ1) st' q.1) (r3 : q_ra ρ1 scr xs A' q.2) (hk : ih d M (pc + len) ls st' A' K = true) : q_Out T L scr xs d M pc lc sc σ ρ K :=
  q_go hS hd hen (g_st_hp (en := ((ins, len), x, y, z)) h0 h1 h2 hs) hp (q_rl_px hp r1) r2 r3 hk
theorem q_gf_ok {i : Nat} (hS : q_Snd T L scr xs ih) (hd : d ≤ T.2.1) (hen : M.2.2.2.2.2 pc = some ((.getfield i, len), x, y, z)) (r1 : q_rl ρ ls lc) (r2 : q_al2 (q_rv ρ) st sc) (r3 : q_ra ρ scr xs A σ) (h : q_gf x y st A (fun st A => ih d M (pc + len) ls st A K) = true) : q_Out T L scr xs d M pc lc sc σ ρ K := by
  unfold q_gf at h
  split at h
  · rename_i a r
    obtain ⟨t, rfl, r4⟩ := q_cons_r r2
    cases hb : Nat.blt a A.2.1 with
    | false => rw [hb] at h; cases h
    | true =>
      rw [hb] at h
      dsimp only [cond_true] at h
      split at h
      · rename_i ci fs hg
        obtain ⟨e, g1, gs, rfl, g2⟩ := q_at_h r3.2.1 hb hg
        cases hx : Nat.beq ci x with
        | false => rw [hx] at h; cases h
        | true =>
          rw [hx] at h
          dsimp only [cond_true] at h
          split at h
          · rename_i v hv
            rw [q_nth_eq] at hv
            obtain ⟨w, g3, g4⟩ := q_al2_nth g2 y hv
            refine q_hp hS hd hen r1 (q_px_rf ρ) rfl rfl rfl (q := (w :: t, σ)) ?_ (st' := v :: r) (And.intro g4 r4) r3 h
            have e : ci = x := q_beq hx
            subst e
            simp only [g_hp, va_rf, g_gf, g1, g3, beq_self_eq_true, cond_true]
          · cases h
      · cases h
  · cases h
theorem q_fits_ok {ty : FieldType} {v : q_V} {w : Value} (he : q_re ρ A.1) (hv : q_rv ρ v w) (h : q_fits ty v A.1 q_iv = true) : narrow ty w = w ∧ fits ty w = true := by
  unfold q_fits at h
  split at h
  · obtain ⟨u, rfl, -⟩ := hv
    exact ⟨rfl, rfl⟩
  · rename_i a
    obtain ⟨u, rfl, hu⟩ := hv
    have hi := q_iv_ok he hu
    rw [Bool.and_eq_true, q_ile_ok, q_ile_ok] at h
    have : u.toInt = 0 ∨ u.toInt = 1 := by omega
    rcases this with e | e
    · have : u = 0 := q_inj (by rw [e]; rfl)
      subst this
      exact ⟨by rfl, by decide⟩
    · have : u = 1 := q_inj (by rw [e]; rfl)
      subst this
      exact ⟨by rfl, by decide⟩
  · rename_i o
    have hv : w = va_rf o := hv
    subst hv
    cases o <;> exact ⟨rfl, rfl⟩
  · rename_i o
    have hv : w = va_rf o := hv
    subst hv
    cases o <;> exact ⟨rfl, rfl⟩
  · cases h
theorem q_pf_ok {i : Nat} (hS : q_Snd T L scr xs ih) (hd : d ≤ T.2.1) (hen : M.2.2.2.2.2 pc = some ((.putfield i, len), x, y, z)) (r1 : q_rl ρ ls lc) (r2 : q_al2 (q_rv ρ) st sc) (r3 : q_ra ρ scr xs A σ) (h : q_pf x y st A (fun st A => ih d M (pc + len) ls st A K) = true) : q_Out T L scr xs d M pc lc sc σ ρ K := by
  unfold q_pf at h
  split at h
  · rename_i v a r
    obtain ⟨w, t, rfl, hv, r4⟩ := q_cons r2
    obtain ⟨t, rfl, r5⟩ := q_cons_r r4
    cases hb : Nat.blt a A.2.1 with
    | false => rw [hb] at h; cases h
    | true =>
      rw [hb] at h
      dsimp only [cond_true] at h
      split at h
      · rename_i ci fs hg
        obtain ⟨e, g1, gs, rfl, g2⟩ := q_at_h r3.2.1 hb hg
        cases hx : (Nat.beq ci x && (Nat.blt y (q_len fs) && q_fits (g_ty x y) v A.1 q_iv)) with
        | false => rw [hx] at h; cases h
        | true =>
          rw [hx] at h
          rw [Bool.and_eq_true, Bool.and_eq_true] at hx
          obtain ⟨x1, x2, x3⟩ := hx
          have e : ci = x := q_beq x1
          subst e
          obtain ⟨f1, f2⟩ := q_fits_ok r3.1 hv x3
          have hy : y < gs.length := by
            rw [← q_al2_len g2, ← q_len_eq]
            exact q_blt x2
          refine q_hp hS hd hen r1 (q_px_rf ρ) rfl rfl rfl (q := (t, σ.set a (.inr (ci, gs.set y w)))) ?_ r5 (A' := (A.1, A.2.1, q_wr A.2.2 a (.inr (.inr (ci, q_put fs y v))))) ⟨r3.1, q_rh_set r3.2.1 hg ⟨_, rfl, ?_⟩, r3.2.2⟩ h
          · simp only [g_hp, va_rf, g_pf, g1]
            rw [if_pos ⟨trivial, hy, f1, f2⟩]
          · rw [q_put_eq]
            exact q_al2_set g2 y hv
      · cases h
  · cases h
theorem q_al_ok (hL : L < 100000) (hS : q_Snd T L scr xs ih) (hd : d ≤ T.2.1) (hen : M.2.2.2.2.2 pc = some ((.arraylength, len), x, y, z)) (r1 : q_rl ρ ls lc) (r2 : q_al2 (q_rv ρ) st sc) (r3 : q_ra ρ scr xs A σ) (h : q_al L st A (fun st A => ih d M (pc + len) ls st A K) = true) : q_Out T L scr xs d M pc lc sc σ ρ K := by
  have hI : ∀ m : Nat, m < 100001 → q_rv ρ (.inl (.inl (m : Int))) (.int (Int32.ofNat m)) := by
    intro m hm
    refine ⟨_, rfl, ?_⟩
    show (Int32.ofNat m).toInt = (m : Int)
    exact nI_toInt (by omega)
  unfold q_al at h
  split at h
  · rename_i r
    obtain ⟨t, rfl, r4⟩ := q_cons_r r2
    exact q_hp hS hd hen r1 (q_px_rf ρ) rfl rfl rfl (q := (.int (Int32.ofNat L) :: t, σ)) rfl (st' := .inl (.inl (L : Int)) :: r) (And.intro (hI L (by omega)) r4) r3 h
  · rename_i a r
    obtain ⟨t, rfl, r4⟩ := q_cons_r r2
    cases hb : Nat.blt a A.2.1 with
    | false => rw [hb] at h; cases h
    | true =>
      rw [hb] at h
      dsimp only [cond_true] at h
      split at h
      · rename_i tg m ups hg
        obtain ⟨e, g1, f, rfl, g2⟩ := q_at_h r3.2.1 hb hg
        cases hx : (Nat.blt tg 4 && Nat.blt m 100001) with
        | false => rw [hx] at h; cases h
        | true =>
          rw [hx] at h
          rw [Bool.and_eq_true] at hx
          refine q_hp hS hd hen r1 (q_px_rf ρ) rfl rfl rfl (q := (.int (Int32.ofNat m) :: t, σ)) ?_ (st' := .inl (.inl (m : Int)) :: r) (And.intro (hI m (q_blt hx.2)) r4) r3 h
          simp only [g_hp, va_rf, g_al, g1]
          rw [if_pos (q_blt hx.1)]
      · rename_i m ups hg
        obtain ⟨e, g1, f, rfl, g2⟩ := q_at_h r3.2.1 hb hg
        cases hx : Nat.blt m 100001 with
        | false => rw [hx] at h; cases h
        | true =>
          rw [hx] at h
          refine q_hp hS hd hen r1 (q_px_rf ρ) rfl rfl rfl (q := (.int (Int32.ofNat m) :: t, σ)) ?_ (st' := .inl (.inl (m : Int)) :: r) (And.intro (hI m (q_blt hx)) r4) r3 h
          simp only [g_hp, va_rf, g_al, g1]
          rw [if_pos (by decide)]
      · cases h
  · cases h
theorem q_ia_ok (hL : L = scr.length) (hS : q_Snd T L scr xs ih) (hd : d ≤ T.2.1) (hen : M.2.2.2.2.2 pc = some ((.iaload, len), x, y, z)) (r1 : q_rl ρ ls lc) (r2 : q_al2 (q_rv ρ) st sc) (r3 : q_ra ρ scr xs A σ) (h : q_ia scr st A (fun st A => ih d M (pc + len) ls st A K) = true) : q_Out T L scr xs d M pc lc sc σ ρ K := by
  unfold q_ia at h
  split at h
  · rename_i i r
    obtain ⟨iv, t, rfl, hi, r4⟩ := q_cons_i r2
    obtain ⟨t, rfl, r5⟩ := q_cons_r r4
    obtain ⟨b1, b2, e, he, h2⟩ := q_idx_ok r3.1 hi h
    rw [q_len_eq, ← hL] at b2
    obtain ⟨o1, o2⟩ := q_in32 b1 b2
    split at h2
    · rename_i v hv
      rw [q_nth_eq] at hv
      refine q_hp hS hd hen r1 (q_px_rf ρ) rfl rfl rfl (q := (.int (xs iv.toNatClampNeg) :: t, σ)) ?_ (st' := .inl v :: r) (And.intro ⟨_, rfl, ?_⟩ r5) (q_ra_env r3 (q_px_rf ρ) he) h2
      · simp only [g_hp, va_rf, g_ia, o1, cond_false]
      · rw [o2]
        exact r3.2.2 _ _ hv
    · cases h2
  · rename_i i a r
    obtain ⟨iv, t, rfl, hi, r4⟩ := q_cons_i r2
    obtain ⟨t, rfl, r5⟩ := q_cons_r r4
    cases hb : Nat.blt a A.2.1 with
    | false => rw [hb] at h; cases h
    | true =>
      rw [hb] at h
      dsimp only [cond_true] at h
      split at h
      · rename_i m ups hg
        obtain ⟨e, g1, f, rfl, g2⟩ := q_at_h r3.2.1 hb hg
        obtain ⟨b1, b2, e, he, h2⟩ := q_idx_ok r3.1 hi h
        obtain ⟨o1, o2⟩ := q_in32 b1 b2
        refine q_hp hS hd hen r1 (q_px_rf ρ) rfl rfl rfl (q := (.int (f iv.toNatClampNeg) :: t, σ)) ?_ (st' := .inl (q_at (.inl 0) ups iv.toInt.toNat) :: r) (And.intro ⟨_, rfl, ?_⟩ r5) (q_ra_env r3 (q_px_rf ρ) he) h2
        · simp only [g_hp, va_rf, g_ia, g1, o1, cond_false]
        · rw [o2]
          exact g2 _
      · cases h
  · cases h
theorem q_ba_ok (hS : q_Snd T L scr xs ih) (hd : d ≤ T.2.1) (hen : M.2.2.2.2.2 pc = some ((.baload, len), x, y, z)) (r1 : q_rl ρ ls lc) (r2 : q_al2 (q_rv ρ) st sc) (r3 : q_ra ρ scr xs A σ) (h : q_ba st A (fun st A => ih d M (pc + len) ls st A K) = true) : q_Out T L scr xs d M pc lc sc σ ρ K := by
  unfold q_ba at h
  split at h
  · rename_i i a r
    obtain ⟨iv, t, rfl, hi, r4⟩ := q_cons_i r2
    obtain ⟨t, rfl, r5⟩ := q_cons_r r4
    cases hb : Nat.blt a A.2.1 with
    | false => rw [hb] at h; cases h
    | true =>
      rw [hb] at h
      dsimp only [cond_true] at h
      split at h
      · rename_i m ups hg
        obtain ⟨e, g1, f, rfl, g2⟩ := q_at_h r3.2.1 hb hg
        obtain ⟨b1, b2, e, he, h2⟩ := q_idx_ok r3.1 hi h
        obtain ⟨o1, o2⟩ := q_in32 b1 b2
        refine q_hp hS hd hen r1 (q_px_rf ρ) rfl rfl rfl (q := (.int (f iv.toNatClampNeg) :: t, σ)) ?_ (st' := .inl (q_at (.inl 0) ups iv.toInt.toNat) :: r) (And.intro ⟨_, rfl, ?_⟩ r5) (q_ra_env r3 (q_px_rf ρ) he) h2
        · simp only [g_hp, va_rf, g_ba, g1, o1, cond_false]
        · rw [o2]
          exact g2 _
      · rename_i m ups hg
        obtain ⟨e, g1, f, rfl, g2⟩ := q_at_h r3.2.1 hb hg
        obtain ⟨b1, b2, e, he, h2⟩ := q_idx_ok r3.1 hi h
        obtain ⟨o1, o2⟩ := q_in32 b1 b2
        refine q_hp hS hd hen r1 (q_px_rf ρ) rfl rfl rfl (q := (.int (f iv.toNatClampNeg) :: t, σ)) ?_ (st' := .inl (q_at (.inl 0) ups iv.toInt.toNat) :: r) (And.intro ⟨_, rfl, ?_⟩ r5) (q_ra_env r3 (q_px_rf ρ) he) h2
        · simp only [g_hp, va_rf, g_ba, g1, o1, cond_false]
        · rw [o2]
          exact g2 _
      · cases h
  · cases h
theorem q_aa_ok (hS : q_Snd T L scr xs ih) (hd : d ≤ T.2.1) (hen : M.2.2.2.2.2 pc = some ((.aaload, len), x, y, z)) (r1 : q_rl ρ ls lc) (r2 : q_al2 (q_rv ρ) st sc) (r3 : q_ra ρ scr xs A σ) (h : q_aa st A (fun st A => ih d M (pc + len) ls st A K) = true) : q_Out T L scr xs d M pc lc sc σ ρ K := by
  unfold q_aa at h
  split at h
  · rename_i i a r
    obtain ⟨iv, t, rfl, hi, r4⟩ := q_cons_i r2
    obtain ⟨t, rfl, r5⟩ := q_cons_r r4
    cases hb : Nat.blt a A.2.1 with
    | false => rw [hb] at h; cases h
    | true =>
      rw [hb] at h
      dsimp only [cond_true] at h
      split at h
      · rename_i m ups hg
        obtain ⟨e, g1, f, rfl, g2⟩ := q_at_h r3.2.1 hb hg
        obtain ⟨b1, b2, e, he, h2⟩ := q_idx_ok r3.1 hi h
        obtain ⟨o1, o2⟩ := q_in32 b1 b2
        refine q_hp hS hd hen r1 (q_px_rf ρ) rfl rfl rfl (q := (va_rf (f iv.toNatClampNeg) :: t, σ)) ?_ (st' := .inr (.inr (q_at none ups iv.toInt.toNat)) :: r) (And.intro ?_ r5) (q_ra_env r3 (q_px_rf ρ) he) h2
        · simp only [g_hp, va_rf, g_aa, g1, o1, cond_false]
        · show va_rf _ = va_rf _
          rw [o2, g2]
      · cases h
  · cases h
theorem q_upd_ok {f : Nat → Int32} {ups : List (Nat × q_N)} {v : q_N} {w : Int32} (hf : ∀ j, q_r ρ (q_at (.inl 0) ups j) (f j).toInt) (hv : q_r ρ v w.toInt) (i : Nat) : ∀ j, q_r ρ (q_at (.inl 0) (q_ins ups i v) j) (upd f i w j).toInt := by
  intro j
  rw [q_at_ins]
  unfold upd
  by_cases hj : j = i
  · simp only [hj, if_true]; exact hv
  · simp only [hj, if_false]; exact hf j
theorem q_ist_ok (hS : q_Snd T L scr xs ih) (hd : d ≤ T.2.1) (hen : M.2.2.2.2.2 pc = some ((.iastore, len), x, y, z)) (r1 : q_rl ρ ls lc) (r2 : q_al2 (q_rv ρ) st sc) (r3 : q_ra ρ scr xs A σ) (h : q_ist st A (fun st A => ih d M (pc + len) ls st A K) = true) : q_Out T L scr xs d M pc lc sc σ ρ K := by
  unfold q_ist at h
  split at h
  · rename_i v i a r
    obtain ⟨w, t, rfl, hv, r4⟩ := q_cons_i r2
    obtain ⟨iv, t, rfl, hi, r5⟩ := q_cons_i r4
    obtain ⟨t, rfl, r6⟩ := q_cons_r r5
    cases hb : Nat.blt a A.2.1 with
    | false => rw [hb] at h; cases h
    | true =>
      rw [hb] at h
      dsimp only [cond_true] at h
      split at h
      · rename_i m ups hg
        obtain ⟨e, g1, f, rfl, g2⟩ := q_at_h r3.2.1 hb hg
        obtain ⟨b1, b2, e, he, h2⟩ := q_idx_ok r3.1 hi h
        obtain ⟨o1, o2⟩ := q_in32 b1 b2
        refine q_hp hS hd hen r1 (q_px_rf ρ) rfl rfl rfl (q := (t, σ.set a (.inl (0, m, .inl (upd f iv.toNatClampNeg w))))) ?_ r6 (A' := (e, A.2.1, q_wr A.2.2 a (.inl (0, m, q_ins ups iv.toInt.toNat v)))) ⟨he, q_rh_set r3.2.1 hg ⟨_, rfl, ?_⟩, r3.2.2⟩ h2
        · simp only [g_hp, va_rf, g_is, g1, o1, cond_false]
        · rw [o2]
          exact q_upd_ok g2 hv _
      · cases h
  · cases h
theorem q_bst_ok (hS : q_Snd T L scr xs ih) (hd : d ≤ T.2.1) (hen : M.2.2.2.2.2 pc = some ((.bastore, len), x, y, z)) (r1 : q_rl ρ ls lc) (r2 : q_al2 (q_rv ρ) st sc) (r3 : q_ra ρ scr xs A σ) (h : q_bst st A (fun st A => ih d M (pc + len) ls st A K) = true) : q_Out T L scr xs d M pc lc sc σ ρ K := by
  unfold q_bst at h
  split at h
  · rename_i v i a r
    obtain ⟨w, t, rfl, hv, r4⟩ := q_cons_i r2
    obtain ⟨iv, t, rfl, hi, r5⟩ := q_cons_i r4
    obtain ⟨t, rfl, r6⟩ := q_cons_r r5
    have hvi := q_iv_ok r3.1 hv
    cases hb : Nat.blt a A.2.1 with
    | false => rw [hb] at h; cases h
    | true =>
      rw [hb] at h
      dsimp only [cond_true] at h
      split at h
      · rename_i m ups hg
        obtain ⟨e, g1, f, rfl, g2⟩ := q_at_h r3.2.1 hb hg
        cases hx : (q_ile (-128) (q_iv A.1 v).1 && q_ile (q_iv A.1 v).2 127) with
        | false => rw [hx] at h; cases h
        | true =>
          rw [hx] at h
          dsimp only [cond_true] at h
          rw [Bool.and_eq_true, q_ile_ok, q_ile_ok] at hx
          obtain ⟨b1, b2, e, he, h2⟩ := q_idx_ok r3.1 hi h
          obtain ⟨o1, o2⟩ := q_in32 b1 b2
          have hn : vp_nar .byte w = w := by
            rw [vp_nar_byte]
            apply q_inj
            rw [Int8.toInt_toInt32, Int32.toInt_toInt8]
            exact Int.bmod_eq_of_le (by omega) (by omega)
          refine q_hp hS hd hen r1 (q_px_rf ρ) rfl rfl rfl (q := (t, σ.set a (.inl (1, m, .inl (upd f iv.toNatClampNeg (vp_nar .byte w)))))) ?_ r6 (A' := (e, A.2.1, q_wr A.2.2 a (.inl (1, m, q_ins ups iv.toInt.toNat v)))) ⟨he, q_rh_set r3.2.1 hg ⟨_, rfl, ?_⟩, r3.2.2⟩ h2
          · simp only [g_hp, va_rf, g_bs, g1, o1, cond_false]
          · rw [o2, hn]
            exact q_upd_ok g2 hv _
      · rename_i m ups hg
        obtain ⟨e, g1, f, rfl, g2⟩ := q_at_h r3.2.1 hb hg
        cases hx : (q_ile 0 (q_iv A.1 v).1 && q_ile (q_iv A.1 v).2 1) with
        | false => rw [hx] at h; cases h
        | true =>
          rw [hx] at h
          dsimp only [cond_true] at h
          rw [Bool.and_eq_true, q_ile_ok, q_ile_ok] at hx
          obtain ⟨b1, b2, e, he, h2⟩ := q_idx_ok r3.1 hi h
          obtain ⟨o1, o2⟩ := q_in32 b1 b2
          have hn : vp_nar .boolean w = w := by
            have : w.toInt = 0 ∨ w.toInt = 1 := by omega
            rcases this with e | e
            · have : w = 0 := q_inj (by rw [e]; rfl)
              subst this
              rfl
            · have : w = 1 := q_inj (by rw [e]; rfl)
              subst this
              rfl
          refine q_hp hS hd hen r1 (q_px_rf ρ) rfl rfl rfl (q := (t, σ.set a (.inl (2, m, .inl (upd f iv.toNatClampNeg (vp_nar .boolean w)))))) ?_ r6 (A' := (e, A.2.1, q_wr A.2.2 a (.inl (2, m, q_ins ups iv.toInt.toNat v)))) ⟨he, q_rh_set r3.2.1 hg ⟨_, rfl, ?_⟩, r3.2.2⟩ h2
          · simp only [g_hp, va_rf, g_bs, g1, o1, cond_false]
          · rw [o2, hn]
            exact q_upd_ok g2 hv _
      · cases h
  · cases h
theorem q_ast_ok (hS : q_Snd T L scr xs ih) (hd : d ≤ T.2.1) (hen : M.2.2.2.2.2 pc = some ((.aastore, len), x, y, z)) (r1 : q_rl ρ ls lc) (r2 : q_al2 (q_rv ρ) st sc) (r3 : q_ra ρ scr xs A σ) (h : q_ast st A (fun st A => ih d M (pc + len) ls st A K) = true) : q_Out T L scr xs d M pc lc sc σ ρ K := by
  unfold q_ast at h
  split at h
  · rename_i v i a r
    obtain ⟨t, rfl, r4⟩ := q_cons_r r2
    obtain ⟨iv, t, rfl, hi, r5⟩ := q_cons_i r4
    obtain ⟨t, rfl, r6⟩ := q_cons_r r5
    cases hb : (Nat.blt a A.2.1 && Nat.blt v A.2.1) with
    | false => rw [hb] at h; cases h
    | true =>
      rw [hb] at h
      dsimp only [cond_true] at h
      rw [Bool.and_eq_true] at hb
      split at h
      · rename_i m ups hg
        obtain ⟨e, g1, f, rfl, g2⟩ := q_at_h r3.2.1 hb.1 hg
        split at h
        · rename_i fs hg2
          obtain ⟨e, k1, gs, rfl, k2⟩ := q_at_h r3.2.1 hb.2 hg2
          obtain ⟨b1, b2, e, he, h2⟩ := q_idx_ok r3.1 hi h
          obtain ⟨o1, o2⟩ := q_in32 b1 b2
          refine q_hp hS hd hen r1 (q_px_rf ρ) rfl rfl rfl (q := (t, σ.set a (.inl (3, m, .inr (va_up f iv.toNatClampNeg (some (v + 1))))))) ?_ r6 (A' := (e, A.2.1, q_wr A.2.2 a (.inr (.inl (m, q_ins ups iv.toInt.toNat (some (v + 1))))))) ⟨he, q_rh_set r3.2.1 hg ⟨_, rfl, ?_⟩, r3.2.2⟩ h2
          · simp only [g_hp, va_rf, g_as, g1, k1, o1, cond_false]
          · intro j
            rw [q_at_ins, o2]
            unfold va_up
            by_cases hj : j = iv.toInt.toNat
            · simp [hj]
            · simp [hj, g2]
        · cases h
      · cases h
  · cases h
theorem q_new_h {i : Nat} (hS : q_Snd T L scr xs ih) (hd : d ≤ T.2.1) (hen : M.2.2.2.2.2 pc = some ((.new i, len), x, y, z)) (r1 : q_rl ρ ls lc) (r2 : q_al2 (q_rv ρ) st sc) (r3 : q_ra ρ scr xs A σ) (h : q_push A.2.2 A.2.1 (.inr (.inr (x, q_df x))) (fun rows => ih d M (pc + len) ls (.inr (.inr (some (Nat.succ A.2.1))) :: st) (A.1, Nat.succ A.2.1, rows) K) = true) : q_Out T L scr xs d M pc lc sc σ ρ K := by
  obtain ⟨rows, h2, p1, p2⟩ := q_push_ok h
  refine q_hp hS hd hen r1 (q_px_rf ρ) rfl rfl rfl (q := (.ref (σ.length + 1) :: sc, σ ++ [.inr (x, g_df x)])) rfl (st' := .inr (.inr (some (Nat.succ A.2.1))) :: st) (And.intro ?_ r2) (A' := (A.1, Nat.succ A.2.1, rows)) ⟨r3.1, q_rh_app r3.2.1 p1 p2 ⟨_, rfl, ?_⟩, r3.2.2⟩ h2
  · show Value.ref _ = Value.ref _
    rw [r3.2.1.1]
  · have key : ∀ (l : List Nat), q_al2 (q_rv ρ) (l.map (fun j => q_dv (g_ty x j))) (l.map (fun j => defaultValue (g_ty x j))) := by
      intro l
      induction l with
      | nil => trivial
      | cons j l ihl =>
        refine And.intro ?_ ihl
        have ho := q_ty_ok x j
        show q_rv ρ (q_dv (g_ty x j)) (defaultValue (g_ty x j))
        generalize g_ty x j = ty at ho
        cases ty <;> first | (cases ho; done) | exact ⟨_, rfl, rfl⟩ | rfl
    exact key _
theorem q_na_ok {tt : ArrayType} (hS : q_Snd T L scr xs ih) (hd : d ≤ T.2.1) (hen : M.2.2.2.2.2 pc = some ((.newarray tt, len), x, y, z)) (r1 : q_rl ρ ls lc) (r2 : q_al2 (q_rv ρ) st sc) (r3 : q_ra ρ scr xs A σ) (h : q_na tt st A (fun st A => ih d M (pc + len) ls st A K) = true) : q_Out T L scr xs d M pc lc sc σ ρ K := by
  unfold q_na at h
  split at h
  · rename_i m r
    obtain ⟨w, t, rfl, hw, r4⟩ := q_cons_i r2
    have hw : w.toInt = m := hw
    split at h
    · rename_i g hg
      cases hx : (q_ile 0 m && q_ile m 100000) with
      | false => rw [hx] at h; cases h
      | true =>
        rw [hx] at h
        rw [Bool.and_eq_true, q_ile_ok, q_ile_ok] at hx
        dsimp only [cond_true] at h
        obtain ⟨rows, h2, p1, p2⟩ := q_push_ok h
        have e : w.toNatClampNeg = m.toNat := by rw [← hw]; rfl
        have hc : ¬ w < 0 ∧ w.toNatClampNeg ≤ 100000 := by
          refine ⟨fun hh => ?_, by omega⟩
          rw [q_lt32] at hh
          have : (0 : Int32).toInt = 0 := rfl
          omega
        refine q_hp hS hd hen r1 (q_px_rf ρ) rfl rfl rfl (q := (.ref (σ.length + 1) :: t, σ ++ [.inl (g, w.toNatClampNeg, .inl (fun _ => 0))])) ?_ (st' := .inr (.inr (some (Nat.succ A.2.1))) :: r) (And.intro ?_ r4) (A' := (A.1, Nat.succ A.2.1, rows)) ⟨r3.1, q_rh_app r3.2.1 p1 p2 ⟨fun _ => 0, by rw [e], fun j => rfl⟩, r3.2.2⟩ h2
        · simp only [g_hp, g_na, hg]
          rw [if_pos hc]
        · show Value.ref _ = Value.ref _
          rw [r3.2.1.1]
    · cases h
  · cases h
theorem q_an_ok {i : Nat} (hS : q_Snd T L scr xs ih) (hd : d ≤ T.2.1) (hen : M.2.2.2.2.2 pc = some ((.anewarray i, len), x, y, z)) (r1 : q_rl ρ ls lc) (r2 : q_al2 (q_rv ρ) st sc) (r3 : q_ra ρ scr xs A σ) (h : q_an st A (fun st A => ih d M (pc + len) ls st A K) = true) : q_Out T L scr xs d M pc lc sc σ ρ K := by
  unfold q_an at h
  split at h
  · rename_i m r
    obtain ⟨w, t, rfl, hw, r4⟩ := q_cons_i r2
    have hw : w.toInt = m := hw
    cases hx : (q_ile 0 m && q_ile m 100000) with
    | false => rw [hx] at h; cases h
    | true =>
      rw [hx] at h
      rw [Bool.and_eq_true, q_ile_ok, q_ile_ok] at hx
      dsimp only [cond_true] at h
      obtain ⟨rows, h2, p1, p2⟩ := q_push_ok h
      have e : w.toNatClampNeg = m.toNat := by rw [← hw]; rfl
      have hc : ¬ w < 0 ∧ w.toNatClampNeg ≤ 100000 := by
        refine ⟨fun hh => ?_, by omega⟩
        rw [q_lt32] at hh
        have : (0 : Int32).toInt = 0 := rfl
        omega
      refine q_hp hS hd hen r1 (q_px_rf ρ) rfl rfl rfl (q := (.ref (σ.length + 1) :: t, σ ++ [.inl (3, w.toNatClampNeg, .inr (fun _ => none))])) ?_ (st' := .inr (.inr (some (Nat.succ A.2.1))) :: r) (And.intro ?_ r4) (A' := (A.1, Nat.succ A.2.1, rows)) ⟨r3.1, q_rh_app r3.2.1 p1 p2 ⟨fun _ => none, by rw [e], fun j => rfl⟩, r3.2.2⟩ h2
      · simp only [g_hp, g_an]
        rw [if_pos hc]
      · show Value.ref _ = Value.ref _
        rw [r3.2.1.1]
  · cases h
theorem q_cpy_at (f g : List (Nat × q_N)) (sp dp : Nat) : ∀ (m j : Nat), q_at (.inl 0) (q_cpy m sp dp f g) j = if dp ≤ j ∧ j < dp + m then q_at (.inl 0) f (sp + (j - dp)) else q_at (.inl 0) g j
  | 0, j => by
    show q_at (.inl 0) g j = _
    rw [if_neg (by omega)]
  | m + 1, j => by
    show q_at (.inl 0) (q_ins (q_cpy m sp dp f g) (dp + m) (q_at (.inl 0) f (sp + m))) j = _
    rw [q_at_ins, q_cpy_at f g sp dp m j]
    by_cases h1 : j = dp + m
    · rw [if_pos h1, if_pos (by omega)]
      congr 1
      omega
    · rw [if_neg h1]
      by_cases h2 : dp ≤ j ∧ j < dp + m
      · rw [if_pos h2, if_pos (by omega)]
      · rw [if_neg h2, if_neg (by omega)]
theorem q_cp_ok {i : Nat} (hS : q_Snd T L scr xs ih) (hd : d ≤ T.2.1) (hen : M.2.2.2.2.2 pc = some ((.invokestatic i, len), x, y, z)) (r1 : q_rl ρ ls lc) (r2 : q_al2 (q_rv ρ) st sc) (r3 : q_ra ρ scr xs A σ) (hx : x = 99998) (h : q_cp d st A (fun st A => ih d M (pc + len) ls st A K) = true) : q_Out T L scr xs d M pc lc sc σ ρ K := by
  unfold q_cp at h
  split at h
  · rename_i m dp a sp a0 r
    obtain ⟨mw, t, rfl, hm, r4⟩ := q_cons_i r2
    obtain ⟨dw, t, rfl, hdp, r5⟩ := q_cons_i r4
    obtain ⟨t, rfl, r6⟩ := q_cons_r r5
    obtain ⟨sw, t, rfl, hs, r7⟩ := q_cons_i r6
    obtain ⟨t, rfl, r8⟩ := q_cons_r r7
    have hm : mw.toInt = m := hm
    have hdp : dw.toInt = dp := hdp
    have hs : sw.toInt = sp := hs
    cases hb : (Nat.blt a A.2.1 && (Nat.blt a0 A.2.1 && Nat.blt 0 d)) with
    | false => rw [hb] at h; cases h
    | true =>
      rw [hb] at h
      dsimp only [cond_true] at h
      rw [Bool.and_eq_true, Bool.and_eq_true] at hb
      split at h
      · rename_i n0 f0 hg0
        obtain ⟨e, g1, f, rfl, g2⟩ := q_at_h r3.2.1 hb.2.1 hg0
        split at h
        · rename_i n1 f1 hg1
          obtain ⟨e, k1, g, rfl, k2⟩ := q_at_h r3.2.1 hb.1 hg1
          cases hc : ((q_ile 0 sp && (q_ile 0 dp && q_ile 0 m)) && ((Nat.ble (sp.toNat + m.toNat) n0 && Nat.ble (dp.toNat + m.toNat) n1) && Nat.ble (q_lsl r) 8)) with
          | false => rw [hc] at h; cases h
          | true =>
            rw [hc] at h
            simp only [Bool.and_eq_true, q_ile_ok, Nat.ble_eq] at hc
            obtain ⟨⟨c1, c2, c3⟩, ⟨c4, c5⟩, c6⟩ := hc
            have z0 : (0 : Int32).toInt = 0 := rfl
            have es : sw.toNatClampNeg = sp.toNat := by rw [← hs]; rfl
            have ed : dw.toNatClampNeg = dp.toNat := by rw [← hdp]; rfl
            have em : mw.toNatClampNeg = m.toNat := by rw [← hm]; rfl
            have q1 : ¬ sw < 0 := fun hh => by rw [q_lt32] at hh; omega
            have q2 : ¬ dw < 0 := fun hh => by rw [q_lt32] at hh; omega
            have q3 : ¬ mw < 0 := fun hh => by rw [q_lt32] at hh; omega
            have q6 : g_cat t ≤ 8 := by rw [q_lsl_ok r8]; exact c6
            refine q_hp hS hd hen r1 (q_px_rf ρ) rfl rfl rfl (q := (t, σ.set a (.inl (0, n1, .inl (va_cpy f g sw.toNatClampNeg dw.toNatClampNeg mw.toNatClampNeg))))) ?_ r8 (A' := (A.1, A.2.1, q_wr A.2.2 a (.inl (0, n1, q_cpy m.toNat sp.toNat dp.toNat f0 f1)))) ⟨r3.1, q_rh_set r3.2.1 hg1 ⟨_, rfl, ?_⟩, r3.2.2⟩ h
            · subst hx
              simp only [g_hp, g_nv, beq_self_eq_true, cond_true]
              simp only [va_rf, g_cp, g1, k1]
              rw [if_pos ⟨q1, q2, q3, by omega, by omega, q6, q_blt hb.2.2⟩]
            · intro j
              rw [q_cpy_at, es, ed, em]
              unfold va_cpy
              by_cases hj : dp.toNat ≤ j ∧ j < dp.toNat + m.toNat
              · rw [if_pos hj, if_pos hj]; exact g2 _
              · rw [if_neg hj, if_neg hj]; exact k2 _
        · cases h
      · cases h
  · cases h
theorem q_mx_ok {i : Nat} (hS : q_Snd T L scr xs ih) (hd : d ≤ T.2.1) (hen : M.2.2.2.2.2 pc = some ((.invokestatic i, len), x, y, z)) (r1 : q_rl ρ ls lc) (r2 : q_al2 (q_rv ρ) st sc) (r3 : q_ra ρ scr xs A σ) (hx : x = 99997) (h : q_mx d st A (fun st A => ih d M (pc + len) ls st A K) = true) : q_Out T L scr xs d M pc lc sc σ ρ K := by
  unfold q_mx at h
  split at h
  · rename_i b a r
    obtain ⟨yv, t, rfl, hb, r4⟩ := q_cons_i r2
    obtain ⟨xv, t, rfl, ha, r5⟩ := q_cons_i r4
    cases hc : (Nat.ble (q_lsl r) 8 && Nat.blt 0 d) with
    | false => rw [hc] at h; cases h
    | true =>
      rw [hc] at h
      dsimp only [cond_true] at h
      rw [Bool.and_eq_true, Nat.ble_eq] at hc
      have q6 : g_cat t ≤ 8 := by rw [q_lsl_ok r5]; exact hc.1
      have hs : g_hp d L xs (.invokestatic i) x y (.int yv :: .int xv :: t) σ = some (.int (if xv < yv then yv else xv) :: t, σ) := by
        subst hx
        have b1 : ((99997 : Nat) == 99998) = false := by decide
        simp only [g_hp, g_nv, b1, beq_self_eq_true, cond_true, cond_false]
        simp only [g_m2]
        rw [if_pos ⟨q6, q_blt hc.2⟩]
      rcases q_lt_ok r3.1 ha hb h with ⟨h1, e1, he1, h2⟩ | ⟨h1, e1, he1, h2⟩
      · have hlt : xv < yv := (q_lt32 _ _).mpr h1
        rw [if_pos hlt] at hs
        exact q_hp hS hd hen r1 (q_px_rf ρ) rfl rfl rfl hs (st' := .inl b :: r) (And.intro ⟨_, rfl, hb⟩ r5) (q_ra_env r3 (q_px_rf ρ) he1) h2
      · have hlt : ¬ xv < yv := fun hh => by rw [q_lt32] at hh; omega
        rw [if_neg hlt] at hs
        exact q_hp hS hd hen r1 (q_px_rf ρ) rfl rfl rfl hs (st' := .inl a :: r) (And.intro ⟨_, rfl, ha⟩ r5) (q_ra_env r3 (q_px_rf ρ) he1) h2
  · cases h
end QP
