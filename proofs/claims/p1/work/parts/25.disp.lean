theorem q_bip {c : Int} (h : Nat.blt c.natAbs 128 = true) : (Int8.ofInt c).toInt32.toInt = c := by
  have h := q_blt h
  rw [Int8.toInt_toInt32, Int8.toInt_ofInt]
  have e : (Int8.size : Int) = 256 := rfl
  exact Int.bmod_eq_of_le (by omega) (by omega)
theorem q_sip {c : Int} (h : Nat.blt c.natAbs 32768 = true) : (Int16.ofInt c).toInt32.toInt = c := by
  have h := q_blt h
  rw [Int16.toInt_toInt32, Int16.toInt_ofInt]
  have e : (Int16.size : Int) = 65536 := rfl
  exact Int.bmod_eq_of_le (by omega) (by omega)
theorem q_ldk {c : Int} (h : Nat.blt c.natAbs 2147483648 = true) : (Int32.ofInt c).toInt = c := by
  have h := q_blt h
  exact q_ofr (by omega) (by omega)
theorem q_ldk2 {c : Int} (h : Nat.blt c.natAbs 2147483648 = true) : (Int64.ofInt c).toInt = c := by
  have h := q_blt h
  rw [Int64.toInt_ofInt]
  have e : (Int64.size : Int) = 18446744073709551616 := rfl
  exact Int.bmod_eq_of_le (by omega) (by omega)
theorem q_i2l (v : Int32) : v.toInt64.toInt = v.toInt := by simp
theorem q_bifc {b : Bool} {p : Bool} (h : (bif b then p else false) = true) : b = true ∧ p = true := by
  cases b with
  | true => exact ⟨rfl, h⟩
  | false => cases h
theorem q_dec_t {P : Prop} [Decidable P] (h : P) : (decide P) = true := by simpa using h
theorem q_dec_f {P : Prop} [Decidable P] (h : ¬ P) : (decide P) = false := by simpa using h
set_option maxHeartbeats 4000000 in
theorem q_one_ok {T : q_T} {L : Nat} {scr : List q_N} {xs : Nat → Int32} {hk : q_Hk} {ih : q_Ih} (hL : L = scr.length) (hL2 : L < 100000) (hH : q_HkOk T L scr xs hk) (hS : q_Snd T L scr xs ih) : q_Snd T L scr xs (q_one L scr hk ih) := by
  intro d M pc ls st A K hd h ρ lc sc σ r1 r2 r3
  unfold q_one at h
  split at h
  · cases h
  · rename_i en hen
    obtain ⟨⟨ins, len⟩, x, y, z⟩ := en
    dsimp only at h
    unfold q_disp at h
    split at h
    · unfold q_h_iconst at h
      obtain ⟨h1, h2⟩ := q_bifc h
      exact q_const_ok (v := .inl (.inl _)) ⟨_, rfl, q_ldk (by rw [Nat.blt_eq] at h1 ⊢; omega)⟩ hS hd hen r1 r2 r3 rfl h2
    · unfold q_h_bipush at h
      obtain ⟨h1, h2⟩ := q_bifc h
      exact q_const_ok (v := .inl (.inl _)) ⟨_, rfl, q_bip h1⟩ hS hd hen r1 r2 r3 rfl h2
    · unfold q_h_sipush at h
      obtain ⟨h1, h2⟩ := q_bifc h
      exact q_const_ok (v := .inl (.inl _)) ⟨_, rfl, q_sip h1⟩ hS hd hen r1 r2 r3 rfl h2
    · unfold q_h_ldc at h
      obtain ⟨h1, h2⟩ := q_bifc h
      exact q_const_ok (v := .inl (.inl z)) ⟨_, rfl, q_ldk h1⟩ hS hd hen r1 r2 r3 rfl h2
    · unfold q_h_ldc_w at h
      obtain ⟨h1, h2⟩ := q_bifc h
      exact q_const_ok (v := .inl (.inl z)) ⟨_, rfl, q_ldk h1⟩ hS hd hen r1 r2 r3 rfl h2
    · unfold q_h_ldc2_w at h
      obtain ⟨h1, h2⟩ := q_bifc h
      exact q_const_ok (v := .inr (.inl (.inl z))) ⟨_, rfl, q_ldk2 h1⟩ hS hd hen r1 r2 r3 rfl h2
    · rename_i k
      refine q_const_ok (v := .inr (.inl (.inl ((k : Nat) : Int)))) ⟨_, rfl, ?_⟩ hS hd hen r1 r2 r3 rfl h
      show (Int64.ofNat (k : Nat)).toInt = ((k : Nat) : Int)
      exact pk_lT (by omega)
    · exact q_ld_ok hS hd hen r1 r2 r3 rfl (fun v h1 h2 => q_ldi_l h1 h2) h
    · exact q_ld_ok hS hd hen r1 r2 r3 rfl (fun v h1 h2 => q_ldi_l h1 h2) h
    · exact q_ld_ok hS hd hen r1 r2 r3 rfl (fun v h1 h2 => q_lda_l h1 h2) h
    · exact q_ld_ok hS hd hen r1 r2 r3 rfl (fun v h1 h2 => q_lda_l h1 h2) h
    · exact q_ld_ok hS hd hen r1 r2 r3 rfl (fun v h1 h2 => q_ldl_l h1 h2) h
    · exact q_ld_ok hS hd hen r1 r2 r3 rfl (fun v h1 h2 => q_ldl_l h1 h2) h
    · exact q_st_ok hS hd hen r1 r2 r3 rfl (fun v t h1 h2 h3 => by subst h1; exact q_sti_l h2 h3) h
    · exact q_st_ok hS hd hen r1 r2 r3 rfl (fun v t h1 h2 h3 => by subst h1; exact q_sti_l h2 h3) h
    · exact q_st_ok hS hd hen r1 r2 r3 rfl (fun v t h1 h2 h3 => by subst h1; exact q_sta_l h2 h3) h
    · exact q_st_ok hS hd hen r1 r2 r3 rfl (fun v t h1 h2 h3 => by subst h1; exact q_sta_l h2 h3) h
    · exact q_inc_ok hS hd hen r1 r2 r3 h
    · exact q_i2_ok (op := 1) (by decide) hS hd hen r1 r2 r3 (fun _ => rfl) h
    · exact q_i2_ok (op := 2) (by decide) hS hd hen r1 r2 r3 (fun _ => rfl) h
    · exact q_i2_ok (op := 3) (by decide) hS hd hen r1 r2 r3 (fun _ => rfl) h
    · exact q_i2_ok (op := 4) (by decide) hS hd hen r1 r2 r3 (fun _ => rfl) h
    · exact q_i2_ok (op := 5) (by decide) hS hd hen r1 r2 r3 (fun _ => rfl) h
    · exact q_i2_ok (op := 6) (by decide) hS hd hen r1 r2 r3 (fun _ => rfl) h
    · exact q_i2_ok (op := 7) (by decide) hS hd hen r1 r2 r3 (fun _ => rfl) h
    · exact q_i2_ok (op := 8) (by decide) hS hd hen r1 r2 r3 (fun _ => rfl) h
    · exact q_i2_ok (op := 9) (by decide) hS hd hen r1 r2 r3 (fun _ => rfl) h
    · exact q_d2_ok (op := 10) (by decide) hS hd hen r1 r2 r3 (fun _ => rfl) h
    · exact q_d2_ok (op := 11) (by decide) hS hd hen r1 r2 r3 (fun _ => rfl) h
    · exact q_u1_ok (f := fun v => -v) (fun v => q_rng _) hS hd hen r1 r2 r3 (fun _ => rfl) h
    · refine q_u1_ok (f := fun v => v.toInt8.toInt32) (fun v => ?_) hS hd hen r1 r2 r3 (fun _ => rfl) h
      rw [Int8.toInt_toInt32]
      have h1 := BitVec.le_toInt v.toInt8.toBitVec
      have h2 := BitVec.toInt_lt (x := v.toInt8.toBitVec)
      have e : v.toInt8.toInt = v.toInt8.toBitVec.toInt := rfl
      rw [e]
      constructor <;> omega
    · refine q_u1_ok (f := fun v => (v.toUInt32 % 65536).toInt32) (fun v => ?_) hS hd hen r1 r2 r3 (fun _ => rfl) h
      have e := pk_char v
      have hm : v.toBitVec.toNat % 65536 < 65536 := Nat.mod_lt _ (by decide)
      show 0 ≤ ((v.toUInt32 % 65536).toInt32).toInt ∧ ((v.toUInt32 % 65536).toInt32).toInt ≤ 65535
      rw [e, nI_toInt (by omega)]
      constructor <;> omega
    · unfold q_h_i2l at h
      split at h
      · rename_i a0 r0
        obtain ⟨v, t, rfl, ha, r4⟩ := q_cons_i r2
        exact q_stk hS hd hen r1 (q_px_rf ρ) (st' := .inr (.inl a0) :: r0) (sc' := .long v.toInt64 :: t) (And.intro ⟨_, rfl, by rw [q_i2l]; exact ha⟩ r4) r3 rfl h
      · cases h
    · exact q_cm_ok hS hd hen r1 r2 r3 h
    · unfold q_h_dup at h
      split at h
      · rename_i v0 r0
        obtain ⟨h1, h2⟩ := q_bifc h
        obtain ⟨w, t, rfl, hw, r4⟩ := q_cons r2
        have hc : w.category = 1 := by rw [q_cat hw]; exact q_beq h1
        exact q_stk hS hd hen r1 (q_px_rf ρ) (st' := v0 :: v0 :: r0) (sc' := w :: w :: t) (And.intro hw (And.intro hw r4)) r3 (by simp only [g_stk, g_dp, if_pos hc]) h2
      · cases h
    · unfold q_h_dup2 at h
      split at h
      · rename_i v0 w0 r0
        obtain ⟨h1, h2⟩ := q_bifc h
        rw [Bool.and_eq_true] at h1
        obtain ⟨w, t, rfl, hw, r4⟩ := q_cons r2
        obtain ⟨u, t, rfl, hu, r5⟩ := q_cons r4
        have hc : w.category = 1 ∧ u.category = 1 := ⟨by rw [q_cat hw]; exact q_beq h1.1, by rw [q_cat hu]; exact q_beq h1.2⟩
        exact q_stk hS hd hen r1 (q_px_rf ρ) (st' := v0 :: w0 :: v0 :: w0 :: r0) (sc' := w :: u :: w :: u :: t) (And.intro hw (And.intro hu (And.intro hw (And.intro hu r5)))) r3 (by simp only [g_stk, g_dd]; rw [if_pos hc]) h2
      · cases h
    · unfold q_h_pop at h
      split at h
      · obtain ⟨h1, h2⟩ := q_bifc h
        obtain ⟨w, t, rfl, hw, r4⟩ := q_cons r2
        have hc : w.category = 1 := by rw [q_cat hw]; exact q_beq h1
        exact q_stk hS hd hen r1 (q_px_rf ρ) (sc' := t) r4 r3 (by simp only [g_stk, g_po, if_pos hc]) h2
      · cases h
    · exact q_const_ok (v := .inr (.inr none)) (w := .null) rfl hS hd hen r1 r2 r3 rfl h
    · exact q_go hS hd hen (g_st_jmp (en := ((.goto _, len), x, y, z)) (q := (x, sc)) rfl rfl rfl) (q_px_rf ρ) r1 r2 r3 h
    · exact q_b1_ok (P := fun v => v = 0) (tt := x) (ff := (pc + 3)) (fun a v env kt kf he ha hh => q_ceq a (.inl 0) v 0 env kt kf he ha rfl hh) hS hd hen r1 r2 r3 rfl rfl (fun v t e hp => by subst e; show some (bif decide (v = 0) then x else pc + 3, t) = _; rw [q_dec_t hp]; rfl) (fun v t e hp => by subst e; show some (bif decide (v = 0) then x else pc + 3, t) = _; rw [q_dec_f hp]; rfl) h
    · exact q_b1_ok (P := fun v => v = 0) (tt := (pc + 3)) (ff := x) (fun a v env kt kf he ha hh => q_ceq a (.inl 0) v 0 env kt kf he ha rfl hh) hS hd hen r1 r2 r3 rfl rfl (fun v t e hp => by subst e; show some (bif decide (¬ v = 0) then x else pc + 3, t) = _; rw [q_dec_f (fun hh => hh hp)]; rfl) (fun v t e hp => by subst e; show some (bif decide (¬ v = 0) then x else pc + 3, t) = _; rw [q_dec_t hp]; rfl) h
    · exact q_b1_ok (P := fun v => v < 0) (tt := x) (ff := (pc + 3)) (fun a v env kt kf he ha hh => q_clt a (.inl 0) v 0 env kt kf he ha rfl hh) hS hd hen r1 r2 r3 rfl rfl (fun v t e hp => by subst e; show some (bif decide (v < 0) then x else pc + 3, t) = _; rw [q_dec_t hp]; rfl) (fun v t e hp => by subst e; show some (bif decide (v < 0) then x else pc + 3, t) = _; rw [q_dec_f hp]; rfl) h
    · exact q_b1_ok (P := fun v => v < 0) (tt := (pc + 3)) (ff := x) (fun a v env kt kf he ha hh => q_clt a (.inl 0) v 0 env kt kf he ha rfl hh) hS hd hen r1 r2 r3 rfl rfl (fun v t e hp => by subst e; show some (bif decide (0 ≤ v) then x else pc + 3, t) = _; rw [q_dec_f (fun hh => by rw [q_le32] at hh; rw [q_lt32] at hp; omega)]; rfl) (fun v t e hp => by subst e; show some (bif decide (0 ≤ v) then x else pc + 3, t) = _; rw [q_dec_t (by rw [q_lt32] at hp; rw [q_le32]; omega)]; rfl) h
    · exact q_b1_ok (P := fun v => 0 < v) (tt := x) (ff := (pc + 3)) (fun a v env kt kf he ha hh => q_cgt a (.inl 0) v 0 env kt kf he ha rfl hh) hS hd hen r1 r2 r3 rfl rfl (fun v t e hp => by subst e; show some (bif decide (0 < v) then x else pc + 3, t) = _; rw [q_dec_t hp]; rfl) (fun v t e hp => by subst e; show some (bif decide (0 < v) then x else pc + 3, t) = _; rw [q_dec_f hp]; rfl) h
    · exact q_b1_ok (P := fun v => 0 < v) (tt := (pc + 3)) (ff := x) (fun a v env kt kf he ha hh => q_cgt a (.inl 0) v 0 env kt kf he ha rfl hh) hS hd hen r1 r2 r3 rfl rfl (fun v t e hp => by subst e; show some (bif decide (v ≤ 0) then x else pc + 3, t) = _; rw [q_dec_f (fun hh => by rw [q_le32] at hh; rw [q_lt32] at hp; omega)]; rfl) (fun v t e hp => by subst e; show some (bif decide (v ≤ 0) then x else pc + 3, t) = _; rw [q_dec_t (by rw [q_lt32] at hp; rw [q_le32]; omega)]; rfl) h
    · exact q_b2_ok (P := fun v w => v = w) (tt := x) (ff := (pc + 3)) (fun a b v w env kt kf he ha hb hh => q_ceq a b v w env kt kf he ha hb hh) hS hd hen r1 r2 r3 rfl rfl (fun v w t e hp => by subst e; show some (bif decide (v = w) then x else pc + 3, t) = _; rw [q_dec_t hp]; rfl) (fun v w t e hp => by subst e; show some (bif decide (v = w) then x else pc + 3, t) = _; rw [q_dec_f hp]; rfl) h
    · exact q_b2_ok (P := fun v w => v = w) (tt := (pc + 3)) (ff := x) (fun a b v w env kt kf he ha hb hh => q_ceq a b v w env kt kf he ha hb hh) hS hd hen r1 r2 r3 rfl rfl (fun v w t e hp => by subst e; show some (bif decide (¬ v = w) then x else pc + 3, t) = _; rw [q_dec_f (fun hh => hh hp)]; rfl) (fun v w t e hp => by subst e; show some (bif decide (¬ v = w) then x else pc + 3, t) = _; rw [q_dec_t hp]; rfl) h
    · exact q_b2_ok (P := fun v w => v < w) (tt := x) (ff := (pc + 3)) (fun a b v w env kt kf he ha hb hh => q_clt a b v w env kt kf he ha hb hh) hS hd hen r1 r2 r3 rfl rfl (fun v w t e hp => by subst e; show some (bif decide (v < w) then x else pc + 3, t) = _; rw [q_dec_t hp]; rfl) (fun v w t e hp => by subst e; show some (bif decide (v < w) then x else pc + 3, t) = _; rw [q_dec_f hp]; rfl) h
    · exact q_b2_ok (P := fun v w => v < w) (tt := (pc + 3)) (ff := x) (fun a b v w env kt kf he ha hb hh => q_clt a b v w env kt kf he ha hb hh) hS hd hen r1 r2 r3 rfl rfl (fun v w t e hp => by subst e; show some (bif decide (w ≤ v) then x else pc + 3, t) = _; rw [q_dec_f (fun hh => by rw [q_le32] at hh; rw [q_lt32] at hp; omega)]; rfl) (fun v w t e hp => by subst e; show some (bif decide (w ≤ v) then x else pc + 3, t) = _; rw [q_dec_t (by rw [q_lt32] at hp; rw [q_le32]; omega)]; rfl) h
    · exact q_b2_ok (P := fun v w => w < v) (tt := x) (ff := (pc + 3)) (fun a b v w env kt kf he ha hb hh => q_cgt a b v w env kt kf he ha hb hh) hS hd hen r1 r2 r3 rfl rfl (fun v w t e hp => by subst e; show some (bif decide (w < v) then x else pc + 3, t) = _; rw [q_dec_t hp]; rfl) (fun v w t e hp => by subst e; show some (bif decide (w < v) then x else pc + 3, t) = _; rw [q_dec_f hp]; rfl) h
    · exact q_b2_ok (P := fun v w => w < v) (tt := (pc + 3)) (ff := x) (fun a b v w env kt kf he ha hb hh => q_cgt a b v w env kt kf he ha hb hh) hS hd hen r1 r2 r3 rfl rfl (fun v w t e hp => by subst e; show some (bif decide (v ≤ w) then x else pc + 3, t) = _; rw [q_dec_f (fun hh => by rw [q_le32] at hh; rw [q_lt32] at hp; omega)]; rfl) (fun v w t e hp => by subst e; show some (bif decide (v ≤ w) then x else pc + 3, t) = _; rw [q_dec_t (by rw [q_lt32] at hp; rw [q_le32]; omega)]; rfl) h
    · unfold q_h_ifnull at h
      split at h
      · obtain ⟨t, rfl, r4⟩ := q_cons_r r2
        exact q_go hS hd hen (g_st_jmp (en := ((.ifnull _, len), x, y, z)) (q := (x, t)) rfl rfl rfl) (q_px_rf ρ) r1 r4 r3 h
      · obtain ⟨t, rfl, r4⟩ := q_cons_r r2
        exact q_go hS hd hen (g_st_jmp (en := ((.ifnull _, len), x, y, z)) (q := (pc + 3, t)) rfl rfl rfl) (q_px_rf ρ) r1 r4 r3 h
      · cases h
    · unfold q_h_ifnonnull at h
      split at h
      · obtain ⟨t, rfl, r4⟩ := q_cons_r r2
        exact q_go hS hd hen (g_st_jmp (en := ((.ifnonnull _, len), x, y, z)) (q := (pc + 3, t)) rfl rfl rfl) (q_px_rf ρ) r1 r4 r3 h
      · obtain ⟨t, rfl, r4⟩ := q_cons_r r2
        exact q_go hS hd hen (g_st_jmp (en := ((.ifnonnull _, len), x, y, z)) (q := (x, t)) rfl rfl rfl) (q_px_rf ρ) r1 r4 r3 h
      · cases h
    · exact q_tsw_ok hS hd hen r1 r2 r3 h
    · exact q_gf_ok hS hd hen r1 r2 r3 h
    · exact q_pf_ok hS hd hen r1 r2 r3 h
    · exact q_new_h hS hd hen r1 r2 r3 h
    · exact q_na_ok hS hd hen r1 r2 r3 h
    · exact q_an_ok hS hd hen r1 r2 r3 h
    · exact q_al_ok hL2 hS hd hen r1 r2 r3 h
    · exact q_ia_ok hL hS hd hen r1 r2 r3 h
    · exact q_ba_ok hS hd hen r1 r2 r3 h
    · exact q_aa_ok hS hd hen r1 r2 r3 h
    · exact q_ist_ok hS hd hen r1 r2 r3 h
    · exact q_bst_ok hS hd hen r1 r2 r3 h
    · exact q_ast_ok hS hd hen r1 r2 r3 h
    · unfold q_h_invokestatic at h
      cases h1 : Nat.blt x 77777 with
      | true =>
        rw [h1] at h
        refine q_ivk_ok hH hS hd hen r1 r2 r3 (fun d' => ?_) rfl rfl (q_blt h1) h
        show (match g_nv (d' + 1) x sc σ with
          | some q => _
          | none => none) = none
        rw [g_nv_none (q_blt h1)]
      | false =>
        rw [h1] at h
        dsimp only [cond_false] at h
        cases h2 : Nat.beq x 99998 with
        | true => rw [h2] at h; exact q_cp_ok hS hd hen r1 r2 r3 (q_beq h2) h
        | false =>
          rw [h2] at h
          dsimp only [cond_false] at h
          obtain ⟨h3, h4⟩ := q_bifc h
          exact q_mx_ok hS hd hen r1 r2 r3 (q_beq h3) h4
    · unfold q_h_invokevirtual at h
      obtain ⟨h1, h2⟩ := q_bifc h
      exact q_ivk_ok hH hS hd hen r1 r2 r3 (fun d' => rfl) rfl rfl (q_blt h1) h2
    · unfold q_h_invokespecial at h
      cases h1 : Nat.blt x 77777 with
      | true =>
        rw [h1] at h
        exact q_ivk_ok hH hS hd hen r1 r2 r3 (fun d' => rfl) rfl rfl (q_blt h1) h
      | false =>
        rw [h1] at h
        dsimp only [cond_false] at h
        obtain ⟨h3, h4⟩ := q_bifc h
        split at h4
        · obtain ⟨t, rfl, r4⟩ := q_cons_r r2
          obtain ⟨h5, h6⟩ := q_bifc h4
          rw [Bool.and_eq_true, Nat.ble_eq] at h5
          obtain ⟨d', rfl⟩ : ∃ d', d = d' + 1 := ⟨d - 1, by have := q_blt h5.2; omega⟩
          have hc : decide (g_cat t ≤ 8) = true := by rw [q_lsl_ok r4]; simpa using h5.1
          refine q_pre 0 (q_px_rf ρ) (fun e => ?_) (hS (d' + 1) M (pc + 3) ls _ A K hd h6 ρ lc t σ r1 r4 r3)
          rw [show 0 + 1 + e = e + 1 by omega, show 0 + e = e by omega]
          exact g_run_oi (k := 2) (rest := t) hen rfl rfl rfl (by rw [q_beq h3]; rfl) (by show (bif decide (g_cat t ≤ 8) then some t else none) = some t; rw [hc]; rfl)
        · cases h4
    · exact q_rt_ok hS hd hen r1 r2 r3 rfl h
    · exact q_rt_ok hS hd hen r1 r2 r3 rfl h
    · exact q_rt_ok hS hd hen r1 r2 r3 rfl h
    · cases h
theorem q_sound {T : q_T} {L : Nat} {scr : List q_N} {xs : Nat → Int32} {hk : q_Hk} (hL : L = scr.length) (hL2 : L < 100000) (hH : q_HkOk T L scr xs hk) : ∀ n, q_Snd T L scr xs (q_run T L scr hk n)
  | 0 => fun d M pc ls st A K hd h => by cases h
  | n + 1 => fun d M pc ls st A K hd h ρ lc sc σ r1 r2 r3 => by
    have h : (bif Nat.beq d T.2.1 && Nat.beq pc T.1 then T.2.2 ls st A else q_one L scr hk (q_run T L scr hk n) d M pc ls st A K) = true := h
    cases hb : (Nat.beq d T.2.1 && Nat.beq pc T.1) with
    | true =>
      rw [hb] at h
      rw [Bool.and_eq_true] at hb
      have e1 := q_beq hb.1
      have e2 := q_beq hb.2
      subst e2
      exact Or.inr ⟨e1, 0, 0, lc, sc, σ, ρ, ls, st, A, fun e => rfl, q_px_rf ρ, r1, r2, r3, h⟩
    | false =>
      rw [hb] at h
      exact q_one_ok hL hL2 hH (q_sound hL hL2 hH n) d M pc ls st A K hd h ρ lc sc σ r1 r2 r3
