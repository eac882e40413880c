/-! the hooks that are proved by hand tell the truth -/
theorem v_pop_and (x y : Int32) : (v_pop (x &&& y)).toInt ≤ (v_pop x).toInt := by
  rw [v_pop_e, v_pop_e, Int32.toBitVec_and, BitVec.toNat_and]
  exact Int.ofNat_le.mpr (v_popN_and 32 _ _)
theorem v_pr2_ok {ρ : List Int} {e : q_S} (he : q_re ρ e) {s : Nat} {p : q_N} {u x : Int32} (hs : ρ[s]? = some (v_pop u).toInt) (hp : q_r ρ p x.toInt) (hle : (v_pop u).toInt ≤ (v_pop x).toInt) : q_re ρ (v_pr2 e s p) := by
  unfold v_pr2
  split
  · rename_i z hz
    obtain ⟨f, -, h2, h3, h4, h5⟩ := q_cse_ok 20 p (.inl 0) e 0 z hz
    obtain ⟨y, b1, -, -, b4⟩ := he.2 _ f h2
    rw [Nat.sub_zero] at b1
    rcases b4 with b4 | ⟨u1, v1, c1, c2, c3⟩
    · rw [h3] at b4; cases b4
    · rw [h4] at c1
      have e1 := q_inj (q_r_inj c1 hp)
      subst e1
      rw [h3] at c3
      have c3 : y = (v_pop u1).toInt := c3
      have iv := q_iv_ok he (a := .inr z) (x := y) b1
      have h0 : 0 ≤ (v_pop u).toInt := by rw [v_pop_e]; omega
      exact v_bd_ok he hs h0 (by omega)
  · exact he
theorem v_pr1_ok {ρ : List Int} {e : q_S} (he : q_re ρ e) {v a : q_N} {u : Int32} (hv : q_r ρ v (v_pop u).toInt) (ha : q_r ρ a u.toInt) : q_re ρ (v_pr1 e v a) := by
  unfold v_pr1
  split
  · rename_i s t
    split
    · rename_i f hf
      rw [q_nth_eq] at hf
      obtain ⟨y, b1, -, -, b4⟩ := he.2 _ f hf
      have ey : y = u.toInt := Option.some.inj (b1.symm.trans (show ρ[t]? = some u.toInt from ha))
      obtain ⟨lo, hi, op, p, q⟩ := f
      dsimp only at b4 ⊢
      split
      · rcases b4 with b4 | ⟨u1, v1, c1, c2, c3⟩
        · cases b4
        · have c3 : y = (u1 &&& v1).toInt := c3
          have eu : u = u1 &&& v1 := q_inj (by omega)
          subst eu
          have e1 := v_pr2_ok he (s := s) hv c1 (v_pop_and u1 v1)
          exact v_pr2_ok e1 (s := s) hv c2 (by rw [Int32.and_comm]; exact v_pop_and v1 u1)
      · exact he
    · exact he
  · exact he
theorem v_less_ok {ρ : List Int} {e : q_S} (he : q_re ρ e) {a b : q_N} {x y : Int} (ha : q_r ρ a x) (hb : q_r ρ b y) (h : v_less e a b = true) : x < y := by
  have i1 := q_iv_ok he ha
  have i2 := q_iv_ok he hb
  unfold v_less at h
  rw [Bool.or_eq_true] at h
  rcases h with h | h
  · rw [q_ilt_ok] at h; omega
  · split at h
    · rename_i z hz
      simp only [Bool.and_eq_true, q_ile_ok] at h
      obtain ⟨h1, h2, h3⟩ := h
      obtain ⟨f, -, k2, k3, k4, k5⟩ := q_cse_ok 2 a b e 0 z hz
      obtain ⟨w, b1, -, -, b4⟩ := he.2 _ f k2
      rw [Nat.sub_zero] at b1
      rcases b4 with b4 | ⟨u, v, c1, c2, c3⟩
      · rw [k3] at b4; cases b4
      · rw [k4] at c1
        rw [k5] at c2
        rw [k3] at c3
        have c3 : w = (u - v).toInt := c3
        have e1 : x = u.toInt := q_r_inj ha c1
        have e2 : y = v.toInt := q_r_inj hb c2
        have iv := q_iv_ok he (a := .inr z) (x := w) b1
        have e9 : (u - v).toInt = u.toInt - v.toInt := by
          rw [← q_of u, ← q_of v, ← Int32.ofInt_sub, q_of, q_of]
          exact q_ofr (by omega) (by omega)
        omega
    · cases h
section HW
variable {X : v_X} {ρ : List Int} {A : v_A} {S : v_Sf} {R : v_Rf}
theorem v_wk1_ok (r3 : v_ra X ρ A S R) {i : q_N} {j : Nat} (hi : q_r ρ i (j : Int)) {rule : Bool} (h : v_wk1 A i rule = true) : ((j : Int) < (S 99 16).toInt) ∨ (rule = true ∧ ∃ k : Nat, j = 16 + k ∧ (k : Int) < (S 99 17).toInt) := by
  unfold v_wk1 at h
  rw [Bool.or_eq_true] at h
  rcases h with h | h
  · left
    split at h
    · rename_i c hc
      obtain ⟨j', g1, g2⟩ := r3.2.1 _ (v_of_ok hc)
      have e : (j' : Int) = 16 := g1
      have e : j' = 16 := by omega
      subst e
      exact v_less_ok r3.1 hi g2 h
    · cases h
  · right
    cases hr : rule with
    | false => rw [hr] at h; cases h
    | true =>
      rw [hr] at h
      refine ⟨rfl, ?_⟩
      dsimp only [cond_true] at h
      split at h
      · rename_i c hc
        obtain ⟨j', g1, g2⟩ := r3.2.1 _ (v_of_ok hc)
        have e : (j' : Int) = 17 := g1
        have e : j' = 17 := by omega
        subst e
        have g2 : q_r ρ c (S 99 17).toInt := g2
        split at h
        · rename_i n
          rw [Bool.and_eq_true, q_ile_ok] at h
          have hi : (j : Int) = n := hi
          refine ⟨j - 16, by omega, ?_⟩
          have := v_less_ok r3.1 (a := .inl (n - 16)) (x := n - 16) rfl g2 h.2
          omega
        · rename_i tt
          split at h
          · rename_i f hf
            rw [q_nth_eq] at hf
            obtain ⟨w, b1, -, -, b4⟩ := r3.1.2 _ f hf
            have ew : w = (j : Int) := Option.some.inj (b1.symm.trans (show ρ[tt]? = some (j : Int) from hi))
            obtain ⟨lo, hi0, op, p, q⟩ := f
            dsimp only at b4 h
            split at h
            · rename_i n
              simp only [Bool.and_eq_true, q_ile_ok, q_ieq_ok] at h
              obtain ⟨h1, h2, h3, h4⟩ := h
              rcases b4 with b4 | ⟨u, v, c1, c2, c3⟩
              · cases b4
              · have c1 : u.toInt = n := c1
                have c3 : w = (u + v).toInt := c3
                have iv := q_iv_ok r3.1 c2
                have e9 : (u + v).toInt = u.toInt + v.toInt := by
                  rw [← q_of u, ← q_of v, ← Int32.ofInt_add, q_of, q_of]
                  exact q_ofr (by omega) (by omega)
                have hl := v_less_ok r3.1 c2 g2 h4
                exact ⟨v.toInt.toNat, by omega, by omega⟩
            · cases h
          · cases h
      · cases h
theorem v_wk_ok (r3 : v_ra X ρ A S R) {r1 r2 : Nat} {rule : Bool} {a b : q_N} {x y : Int32} (ha : q_r ρ a x.toInt) (hb : q_r ρ b y.toInt) : ∀ (ov : List (Nat × q_N × q_N)), (∀ q ∈ ov, q ∈ A.2.1) → v_wk A r1 r2 rule a b ov = true → ∃ j : Nat, x = S r1 j ∧ y = S r2 j ∧ (((j : Int) < (S 99 16).toInt) ∨ (rule = true ∧ ∃ k : Nat, j = 16 + k ∧ (k : Int) < (S 99 17).toInt))
  | [], _, h => by cases h
  | p :: ov, hm, h => by
    have h : (bif Nat.beq p.1 r1 && q_nb p.2.2 a then (bif (match v_of A.2.1 r2 p.2.1 with
      | some b' => q_nb b b' && v_wk1 A p.2.1 rule
      | none => false) then true else v_wk A r1 r2 rule a b ov) else v_wk A r1 r2 rule a b ov) = true := h
    have ih := v_wk_ok (r1 := r1) (r2 := r2) (rule := rule) r3 ha hb ov (fun q hq => hm q (List.mem_cons_of_mem _ hq))
    cases hc : (Nat.beq p.1 r1 && q_nb p.2.2 a) with
    | false => rw [hc] at h; exact ih h
    | true =>
      rw [hc] at h
      dsimp only [cond_true] at h
      rw [Bool.and_eq_true] at hc
      have e1 := q_beq hc.1
      have e2 := q_nb_ok hc.2
      cases hd : (match v_of A.2.1 r2 p.2.1 with
        | some b' => q_nb b b' && v_wk1 A p.2.1 rule
        | none => false) with
      | false => rw [hd] at h; exact ih h
      | true =>
        obtain ⟨j, g1, g2⟩ := r3.2.1 p (hm p List.mem_cons_self)
        rw [e2] at g2
        rw [e1] at g2
        split at hd
        · rename_i b' hb'
          rw [Bool.and_eq_true] at hd
          have e3 := q_nb_ok hd.1
          subst e3
          obtain ⟨j2, g3, g4⟩ := r3.2.1 _ (v_of_ok hb')
          have ej : (j : Int) = (j2 : Int) := q_r_inj g1 g3
          have ej : j = j2 := by omega
          subst ej
          exact ⟨j, q_inj (q_r_inj ha g2), q_inj (q_r_inj hb g4), v_wk1_ok r3 g1 hd.2⟩
        · cases hd
end HW
theorem v_sp_ok {L : Nat} {xs : Nat → Int32} {D : Nat} {mods : List (Nat × Nat × Nat)} {hd : Nat → Nat → Option v_Hp} {hk : v_Hk} {S0 : v_Sf} {R0 : v_Rf} (hMet : ∀ x, ∀ w ∈ v_rw x, w.1 < D → v_Met L xs v_ty v_Op x w) : ∀ (d' x : Nat) (as : List q_V) (A : v_A) (k : v_K), v_sp v_rw D mods d' x as A k = some true → ∀ (M' : g_M) (ρ : List Int) (ac : List Value) (S : v_Sf) (R : v_Rf) (Q : Option Value → v_Sf → v_Rf → Prop), g_mt x = some M' → q_al2 (q_rv ρ) as ac → v_ra (L, xs, (v_ty, mods, v_frz, hd, hk), v_Op, S0, R0) ρ A S R → v_KOk (L, xs, (v_ty, mods, v_frz, hd, hk), v_Op, S0, R0) ρ k Q → v_Tm (L, xs, (v_ty, mods, v_frz, hd, hk), v_Op, S0, R0) d' M' 0 (lv_args 0 ac) [] S R Q := by
  intro d' x as A k h M' ρ ac S R Q hM ra r3 hK
  have tk : ∀ (hi : Int) (row n : Nat) (a : q_N) (u : Int32), q_r ρ a u.toInt → (∀ j, v_frz row j j = false) → v_spt hi row n mods a A k = true → 0 ≤ u.toInt ∧ u.toInt ≤ hi ∧ ∀ S', v_Tb v_ty S' R → (∀ a j, ¬ (a = row ∧ j ≤ n) → S' a j = S a j) → Q (some (.int (v_pop u))) S' R := by
    intro hi row n a u hu hf hs
    unfold v_spt at hs
    replace hs := q_bifc hs
    obtain ⟨hc, hs⟩ := hs
    rw [Bool.and_eq_true] at hc
    have hb := v_in_ok hc.1 (q_iv_ok r3.1 hu)
    refine ⟨hb.1, hb.2, fun S' hT' hS' => ?_⟩
    obtain ⟨ρ1, e1, v, p1, p2, p3, p4⟩ := v_bin_ok r3.1 (op := 20) (by decide) hu (b := .inl 0) (y := 0) rfl hs
    have hne : ∀ a' j', v_md [(row, 0, n)] a' j' j' = false → S' a' j' = S a' j' := by
      intro a' j' hm
      refine hS' a' j' ?_
      rintro ⟨rfl, hj⟩
      have : v_md [(a', 0, n)] a' j' j' = true := by
        show (bif Nat.beq a' a' && (Nat.ble 0 j' && Nat.ble j' n) then true else false) = true
        have e : (Nat.beq a' a' && (Nat.ble 0 j' && Nat.ble j' n)) = true := by simp [hj]
        rw [e]
        rfl
      rw [this] at hm
      cases hm
    refine hK ρ1 (some (.inl v)) _ (some (.int (v_pop u))) S' R p1 p4 ⟨_, rfl, p3⟩ ⟨p2, fun q hq => ?_, r3.2.2.1, hT', v_fz_ok.1 S S' (fun a' j' hfz => hS' a' j' ?_) r3.2.2.2.2.1, fun a' j' hm => ?_⟩
    · obtain ⟨j, g1, g2⟩ := v_keep r3.1 r3.2.1 hne q hq
      exact ⟨j, q_r_px p1 g1, q_r_px p1 g2⟩
    · rintro ⟨rfl, -⟩
      rw [hf] at hfz
      cases hfz
    · rw [hS' a' j' ?_]
      · exact r3.2.2.2.2.2 a' j' hm
      · rintro ⟨rfl, hj⟩
        have hm : v_md mods a' j' j' = false := hm
        rw [v_md_mono hc.2 (Nat.zero_le _) hj] at hm
        cases hm
  unfold v_sp at h
  cases h1 : Nat.beq x 162 with
  | true =>
    rw [h1] at h
    have ex := q_beq h1
    subst ex
    dsimp only [cond_true] at h
    split at h
    · rename_i a
      obtain ⟨u, t, rfl, hu, r4⟩ := q_cons_i ra
      cases t with
      | cons _ _ => exact r4.elim
      | nil =>
        replace h := Option.some.inj h
        replace h := q_bifc h
        obtain ⟨hd1, h⟩ := h
        rw [mt_X12_sizeOf] at hM
        cases hM
        unfold v_spz at h
        obtain ⟨ρ1, e1, v, p1, p2, p3, p4⟩ := v_bin_ok r3.1 (op := 20) (by decide) hu (b := .inl 0) (y := 0) rfl h
        exact h_sizeOf u (hK ρ1 (some (.inl v)) _ (some (.int (v_pop u))) S R p1 p4 ⟨_, rfl, p3⟩ (v_ra_env r3 p1 (v_pr1_ok p2 p3 (q_r_px p1 hu))))
    · cases h
  | false =>
  rw [h1] at h
  dsimp only [cond_false] at h
  cases h2 : Nat.beq x 251 with
  | true =>
    rw [h2] at h
    have ex := q_beq h2
    subst ex
    dsimp only [cond_true] at h
    split at h
    · rename_i a
      obtain ⟨t, rfl, r4⟩ := q_cons_r ra
      obtain ⟨u, t, rfl, hu, r5⟩ := q_cons_i r4
      cases t with
      | cons _ _ => exact r5.elim
      | nil =>
        replace h := Option.some.inj h
        replace h := q_bifc h
        obtain ⟨hd1, h⟩ := h
        rw [Nat.ble_eq] at hd1
        obtain ⟨e', rfl⟩ : ∃ e', d' = e' + 1 := ⟨d' - 1, by omega⟩
        rw [mt_X12_takesSome] at hM
        cases hM
        obtain ⟨b1, b2, hq⟩ := tk 4095 152 12 a u hu (fun j => rfl) h
        exact h_X12_takesSome u S b1 (by omega) r3.2.2.2.1 hq
    · cases h
  | false =>
  rw [h2] at h
  dsimp only [cond_false] at h
  cases h3 : Nat.beq x 256 with
  | true =>
    rw [h3] at h
    have ex := q_beq h3
    subst ex
    dsimp only [cond_true] at h
    split at h
    · rename_i a
      obtain ⟨t, rfl, r4⟩ := q_cons_r ra
      obtain ⟨u, t, rfl, hu, r5⟩ := q_cons_i r4
      cases t with
      | cons _ _ => exact r5.elim
      | nil =>
        replace h := Option.some.inj h
        replace h := q_bifc h
        obtain ⟨hd1, h⟩ := h
        rw [Nat.ble_eq] at hd1
        obtain ⟨e', rfl⟩ : ∃ e', d' = e' + 1 := ⟨d' - 1, by omega⟩
        rw [mt_X12_takesPlaces] at hM
        cases hM
        obtain ⟨b1, b2, hq⟩ := tk 63 153 6 a u hu (fun j => rfl) h
        exact h_X12_takesPlaces u S b1 (by omega) r3.2.2.2.1 hq
    · cases h
  | false =>
  rw [h3] at h
  dsimp only [cond_false] at h
  cases h4 : Nat.beq x 198 with
  | true =>
    rw [h4] at h
    have ex := q_beq h4
    subst ex
    dsimp only [cond_true] at h
    split at h
    · rename_i a b
      obtain ⟨t, rfl, r4⟩ := q_cons_r ra
      obtain ⟨u, t, rfl, hu, r5⟩ := q_cons_i r4
      obtain ⟨v, t, rfl, hv, r6⟩ := q_cons_i r5
      cases t with
      | cons _ _ => exact r6.elim
      | nil =>
        replace h := Option.some.inj h
        replace h := q_bifc h
        obtain ⟨hd1, h⟩ := h
        rw [Bool.and_eq_true, Nat.ble_eq] at hd1
        have hD4 := q_blt hd1.2
        obtain ⟨e', rfl⟩ : ∃ e', d' = e' + 4 := ⟨d' - 4, by omega⟩
        rw [mt_X12_works] at hM
        cases hM
        unfold v_spw at h
        replace h := q_bifc h
        obtain ⟨hw, h⟩ := h
        simp only [Bool.and_eq_true, Bool.or_eq_true] at hw
        obtain ⟨hw, hm1, hm2⟩ := hw
        have hstr : v_stretch (S 105) u v := by
          rcases hw with hw | hw
          · obtain ⟨j, e1, e2, e3⟩ := v_wk_ok r3 hu hv A.2.1 (fun q hq => hq) hw
            subst e1 e2
            rcases e3 with e3 | ⟨-, kk, rfl, e3⟩
            · exact (r3.2.2.2.2.1.1 j e3).2.1
            · exact (r3.2.2.2.2.1.2 kk e3).1
          · obtain ⟨j, e1, e2, e3⟩ := v_wk_ok r3 hu hv A.2.1 (fun q hq => hq) hw
            subst e1 e2
            rcases e3 with e3 | ⟨e4, -⟩
            · exact (r3.2.2.2.2.1.1 j e3).1
            · cases e4
        refine h_works (hMet 197 rw_187 (List.mem_of_getElem? (i := 0) rfl) (Nat.lt_of_le_of_lt (Nat.le_of_ble_eq_true rfl) hD4)) (hMet 195 rw_185 (List.mem_of_getElem? (i := 0) rfl) (Nat.lt_of_le_of_lt (Nat.le_of_ble_eq_true rfl) hD4)) u v S R hstr r3.2.2.2.1 r3.2.2.2.2.1 (fun S' R' k1 k2 k3 => ?_)
        have hsub : v_sub [(114, 0, 240), (115, 0, 240)] mods = true := by
          show (v_md mods 114 0 240 && (v_md mods 115 0 240 && true)) = true
          rw [hm1, hm2]
          rfl
        refine hK ρ none _ none S' R' (q_px_rf ρ) h trivial ⟨r3.1, v_keep r3.1 r3.2.1 (fun a j hm => (k3 a j hm).1), fun q hq => ?_, k1, k2, fun a j hm => ?_⟩
        · obtain ⟨g3, g4⟩ := v_rk_in hq
          rw [(k3 _ _ (v_hit_md g4 (Nat.le_refl _) (Nat.le_refl _))).2]
          exact r3.2.2.1 q g3
        · have g1 := k3 a j (v_sub_md hsub hm)
          have g2 := r3.2.2.2.2.2 a j hm
          exact ⟨g1.1.trans g2.1, g1.2.trans g2.2⟩
    · cases h
  | false =>
  rw [h4] at h
  dsimp only [cond_false] at h
  cases h5 : Nat.beq x 284 with
  | true =>
    rw [h5] at h
    have ex := q_beq h5
    subst ex
    dsimp only [cond_true] at h
    split at h
    · rename_i r a b
      replace h := Option.some.inj h
      obtain ⟨w0, t, rfl, hw0, r4⟩ := q_cons ra
      obtain ⟨u, t, rfl, hu, r5⟩ := q_cons_i r4
      obtain ⟨e, he, h6⟩ := v_need_ok r3.1 hu h
      have r7 := v_ra_env r3 (q_px_rf ρ) he
      split at h6
      · rename_i w hw
        obtain ⟨g1, g2, g3, g4⟩ := v_find_ok hw
        have ra2 : q_al2 (q_rv ρ) [r, .inl (.inl u.toInt), b] (w0 :: .int u :: t) := ⟨hw0, ⟨u, rfl, rfl⟩, r5⟩
        exact v_post_ok (hMet _ w g1 g3) g2 hM (v_mt_ok he g4 ra2) r7 h6 hK
      · cases h6
    · cases h
  | false => rw [h5] at h; cases h
