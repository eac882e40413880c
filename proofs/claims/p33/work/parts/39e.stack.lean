/-! the reader: what is on its stack, what its code asks for -/
def p_bn (sg : Nat → Int32) : Nat → Nat
  | 0 => 0
  | k + 1 => p_bn sg k + (bif p_bi (sg k) then 1 else 0)
def p_dp (c : Nat → Int32) : Nat → Nat → Nat → Nat
  | 0, _, dep => dep
  | n + 1, i, dep => if c i > 2 then p_dp c n (i + 1) (dep - 1) else if c i = 2 then p_dp c n (i + 1) dep else p_dp c n (i + 1) (dep + 1)
theorem p_bn_c {sg sg' : Nat → Int32} : ∀ {k : Nat}, (∀ j, j < k → sg' j = sg j) → p_bn sg' k = p_bn sg k
  | 0, _ => rfl
  | k + 1, h => by
    unfold p_bn
    rw [p_bn_c (fun j hj => h j (by omega)), h k (by omega)]
theorem p_dp_c {c c' : Nat → Int32} : ∀ {n i dep : Nat}, (∀ j, i ≤ j → j < i + n → c' j = c j) → p_dp c' n i dep = p_dp c n i dep
  | 0, _, _, _ => rfl
  | n + 1, i, dep, h => by
    unfold p_dp
    rw [h i (Nat.le_refl _) (by omega), p_dp_c (fun j h1 h2 => h j (by omega) (by omega)), p_dp_c (fun j h1 h2 => h j (by omega) (by omega)), p_dp_c (fun j h1 h2 => h j (by omega) (by omega))]
def p_ok1 (x : Int32) (dep : Nat) : Prop := if x > 2 then 2 ≤ dep else if x = 2 then 1 ≤ dep else True
def p_st1 (x : Int32) (dep : Nat) : Nat := if x > 2 then dep - 1 else if x = 2 then dep else dep + 1
theorem p_dp_s (c : Nat → Int32) (n i dep : Nat) : p_dp c (n + 1) i dep = if c i > 2 then p_dp c n (i + 1) (dep - 1) else if c i = 2 then p_dp c n (i + 1) dep else p_dp c n (i + 1) (dep + 1) := rfl
theorem p_seg_s (c : Nat → Int32) : ∀ (n i dep : Nat), v_seg c n i dep → p_ok1 (c (i + n)) (p_dp c n i dep) → v_seg c (n + 1) i dep ∧ p_dp c (n + 1) i dep = p_st1 (c (i + n)) (p_dp c n i dep)
  | 0, i, dep, _, h => by
    have h : p_ok1 (c i) dep := h
    show v_seg c 1 i dep ∧ p_dp c 1 i dep = p_st1 (c i) dep
    unfold p_ok1 at h
    unfold v_seg p_dp p_st1
    split
    · rename_i h1
      rw [if_pos h1] at h
      exact ⟨⟨h, trivial⟩, rfl⟩
    · rename_i h1
      rw [if_neg h1] at h
      split
      · rename_i h2
        rw [if_pos h2] at h
        exact ⟨⟨h, trivial⟩, rfl⟩
      · exact ⟨trivial, rfl⟩
  | n + 1, i, dep, hs, h => by
    have e : i + (n + 1) = (i + 1) + n := by omega
    rw [e] at h ⊢
    rw [v_seg] at hs
    rw [p_dp_s] at h
    rw [v_seg, p_dp_s c (n + 1) i dep, p_dp_s c n i dep]
    split
    · rename_i h1
      rw [if_pos h1] at h hs
      obtain ⟨k1, k2⟩ := p_seg_s c n (i + 1) (dep - 1) hs.2 h
      exact ⟨⟨hs.1, k1⟩, k2⟩
    · rename_i h1
      rw [if_neg h1] at h hs
      split
      · rename_i h2
        rw [if_pos h2] at h hs
        obtain ⟨k1, k2⟩ := p_seg_s c n (i + 1) dep hs.2 h
        exact ⟨⟨hs.1, k1⟩, k2⟩
      · rename_i h2
        rw [if_neg h2] at h hs
        exact p_seg_s c n (i + 1) (dep + 1) hs h
/-- q: where the stretch begins; m: 0 where an operand is due, 1 behind one -/
def p_I (q : Nat) (nc0 : Nat → Int32) (cs sk : Nat) (nc sg : Nat → Int32) (m : Nat) : Prop := q ≤ cs ∧ (∀ k, k < q → nc k = nc0 k) ∧ v_seg nc (cs - q) q 0 ∧ p_dp nc (cs - q) q 0 = p_bn sg sk + m
theorem p_I_em {q cs sk sk' m m' : Nat} {nc0 nc sg sg' : Nat → Int32} (h : p_I q nc0 cs sk nc sg m) {x : Int32} (h1 : p_ok1 x (p_bn sg sk + m)) (h2 : p_st1 x (p_bn sg sk + m) = p_bn sg' sk' + m') : p_I q nc0 (cs + 1) sk' (upd nc cs x) sg' m' := by
  obtain ⟨a1, a2, a3, a4⟩ := h
  have ex : upd nc cs x cs = x := by simp [upd]
  have en : ∀ j, ¬ j = cs → upd nc cs x j = nc j := fun j hj => by simp [upd, hj]
  have b3 := v_seg_c (c := nc) (c' := upd nc cs x) (fun j g1 g2 => en j (by omega)) a3
  have b4 : p_dp (upd nc cs x) (cs - q) q 0 = p_bn sg sk + m := by rw [p_dp_c (fun j g1 g2 => en j (by omega)), a4]
  have e : q + (cs - q) = cs := by omega
  have k := p_seg_s (upd nc cs x) (cs - q) q 0 b3 (by rw [e, ex, b4]; exact h1)
  rw [e, ex, b4, h2] at k
  have e2 : cs + 1 - q = cs - q + 1 := by omega
  refine ⟨by omega, fun k hk => ?_, ?_, ?_⟩
  · rw [en k (by omega)]; exact a2 k hk
  · rw [e2]; exact k.1
  · rw [e2]; exact k.2
theorem p_I_op {q cs sk : Nat} {nc0 nc sg : Nat → Int32} (h : p_I q nc0 cs sk nc sg 0) {x : Int32} (hx : x = Int32.ofInt 0 ∨ x = Int32.ofInt 1) : p_I q nc0 (cs + 1) sk (upd nc cs x) sg 1 := by
  have n1 : ¬ x > 2 := by rcases hx with rfl | rfl <;> decide
  have n2 : ¬ x = 2 := by rcases hx with rfl | rfl <;> decide
  refine p_I_em h ?_ ?_
  · unfold p_ok1; rw [if_neg n1, if_neg n2]; trivial
  · unfold p_st1; rw [if_neg n1, if_neg n2]
theorem p_tp_pos {sg : Nat → Int32} {sk : Nat} {c : Int32} (h : p_tp sg sk = c) (hc : ¬ c = Int32.ofInt 0) : 0 < sk ∧ sg (sk - 1) = c := by
  unfold p_tp at h
  split at h
  · rename_i h1; exact ⟨h1, h⟩
  · exact absurd h.symm hc
theorem p_bn_top {sg : Nat → Int32} {sk : Nat} (h : 0 < sk) : p_bn sg sk = p_bn sg (sk - 1) + (bif p_bi (sg (sk - 1)) then 1 else 0) := by
  obtain ⟨k, rfl⟩ : ∃ k, sk = k + 1 := ⟨sk - 1, by omega⟩
  rfl
theorem p_bi_lit : ∀ c : Int32, p_bi c = true → c > 2 ∧ ¬ c = Int32.ofInt 0 := by
  intro c h
  unfold p_bi at h
  rw [List.any_eq_true] at h
  obtain ⟨k, hk, e⟩ := h
  have e : c = Int32.ofInt k := eq_of_beq e
  subst e
  simp only [List.mem_cons, List.not_mem_nil, or_false] at hk
  rcases hk with rfl | rfl | rfl | rfl | rfl | rfl | rfl | rfl | rfl | rfl <;> decide
theorem p_bi_ti {c : Int32} (h : p_ti c) : p_bi c = true := by rcases h with rfl | rfl | rfl <;> decide
theorem p_bi_pl {c : Int32} (h : p_pl c) : p_bi c = true := by rcases h with rfl | rfl <;> decide
theorem p_bi_cm {c : Int32} (h : p_cm c) : p_bi c = true := by rcases h with rfl | rfl | rfl <;> decide
theorem p_bi_jo {c : Int32} (h : p_jo c) : p_bi c = true := by rcases h with rfl | rfl <;> decide
theorem p_I_bin {q cs sk : Nat} {nc0 nc sg : Nat → Int32} (h : p_I q nc0 cs sk nc sg 1) (hb : p_bi (p_tp sg sk) = true) : 0 < sk ∧ p_I q nc0 (cs + 1) (sk - 1) (upd nc cs (p_tp sg sk)) sg 1 := by
  obtain ⟨l1, l2⟩ := p_bi_lit _ hb
  obtain ⟨t1, t2⟩ := p_tp_pos rfl l2
  have e := p_bn_top (sg := sg) t1
  rw [t2, hb, cond_true] at e
  refine ⟨t1, p_I_em h ?_ ?_⟩
  · unfold p_ok1; rw [if_pos l1]; omega
  · unfold p_st1; rw [if_pos l1]; omega
theorem p_I_not {q cs sk : Nat} {nc0 nc sg : Nat → Int32} (h : p_I q nc0 cs sk nc sg 1) (hb : p_tp sg sk = Int32.ofInt 33) : 0 < sk ∧ p_I q nc0 (cs + 1) (sk - 1) (upd nc cs (Int32.ofInt 2)) sg 1 := by
  obtain ⟨t1, t2⟩ := p_tp_pos hb (by decide)
  have e := p_bn_top (sg := sg) t1
  rw [t2, show p_bi (Int32.ofInt 33) = false by decide, cond_false] at e
  refine ⟨t1, p_I_em h ?_ ?_⟩
  · unfold p_ok1; rw [if_neg (by decide), if_pos (by decide)]; omega
  · unfold p_st1; rw [if_neg (by decide), if_pos (by decide)]; omega
theorem p_upe {f : Nat → Int32} {k : Nat} {x : Int32} : upd f k x k = x := by simp [upd]
theorem p_upn {f : Nat → Int32} {k j : Nat} {x : Int32} (h : ¬ j = k) : upd f k x j = f j := by simp [upd, h]
theorem p_bn_up {sg : Nat → Int32} {sk : Nat} {x : Int32} : p_bn (upd sg sk x) (sk + 1) = p_bn sg sk + (bif p_bi x then 1 else 0) := by
  show p_bn (upd sg sk x) sk + (bif p_bi (upd sg sk x sk) then 1 else 0) = _
  rw [p_upe, p_bn_c (fun j hj => p_upn (by omega))]
theorem p_I_pb {q cs sk : Nat} {nc0 nc sg : Nat → Int32} (h : p_I q nc0 cs sk nc sg 1) {x : Int32} (hx : p_bi x = true) : p_I q nc0 cs (sk + 1) nc (upd sg sk x) 0 := by
  refine ⟨h.1, h.2.1, h.2.2.1, ?_⟩
  rw [p_bn_up, hx, h.2.2.2]
  rfl
theorem p_I_pn {q cs sk m : Nat} {nc0 nc sg : Nat → Int32} (h : p_I q nc0 cs sk nc sg m) {x : Int32} (hx : p_bi x = false) : p_I q nc0 cs (sk + 1) nc (upd sg sk x) m := by
  refine ⟨h.1, h.2.1, h.2.2.1, ?_⟩
  rw [p_bn_up, hx, h.2.2.2]
  rfl
theorem p_I_dn {q cs sk m : Nat} {nc0 nc sg : Nat → Int32} (h : p_I q nc0 cs sk nc sg m) (h0 : 0 < sk) (hx : p_bi (sg (sk - 1)) = false) : p_I q nc0 cs (sk - 1) nc sg m := by
  refine ⟨h.1, h.2.1, h.2.2.1, ?_⟩
  rw [h.2.2.2, p_bn_top h0, hx]
  rfl
theorem p_I_sg {q cs sk m : Nat} {nc0 nc sg sg' : Nat → Int32} (h : p_I q nc0 cs sk nc sg m) (e : ∀ j, j < sk → sg' j = sg j) : p_I q nc0 cs sk nc sg' m := ⟨h.1, h.2.1, h.2.2.1, by rw [p_bn_c e]; exact h.2.2.2⟩
def p_V (b : Nat) (sg0 : Nat → Int32) (sk : Nat) (sg : Nat → Int32) : Prop := b ≤ sk ∧ (∀ k, k < b → sg k = sg0 k) ∧ (∀ k, b ≤ k → k < sk → p_vs (sg k)) ∧ (0 < b → ¬ p_vs (sg0 (b - 1)))
theorem p_vs0 : ¬ p_vs (Int32.ofInt 0) := by unfold p_vs p_ti p_pl; decide
theorem p_V_top {b sk : Nat} {sg0 sg : Nat → Int32} (h : p_V b sg0 sk sg) (hv : p_vs (p_tp sg sk)) : b < sk := by
  obtain ⟨t1, t2⟩ := p_tp_pos (sg := sg) (sk := sk) rfl (fun e => p_vs0 (e ▸ hv))
  refine Classical.byContradiction (fun hn => ?_)
  have e : b = sk := by have := h.1; omega
  subst e
  refine h.2.2.2 t1 ?_
  rw [← h.2.1 _ (by omega), t2]
  exact hv
theorem p_V_pop {b sk : Nat} {sg0 sg : Nat → Int32} (h : p_V b sg0 sk sg) (hb : b < sk) : p_V b sg0 (sk - 1) sg := ⟨by omega, h.2.1, fun k h1 h2 => h.2.2.1 k h1 (by omega), h.2.2.2⟩
theorem p_V_psh {b sk : Nat} {sg0 sg : Nat → Int32} (h : p_V b sg0 sk sg) {c : Int32} (hc : p_vs c) : p_V b sg0 (sk + 1) (upd sg sk c) := by
  obtain ⟨a1, a2, a3, a4⟩ := h
  refine ⟨by omega, fun k hk => ?_, fun k h1 h2 => ?_, a4⟩
  · rw [p_upn (by omega)]; exact a2 k hk
  · by_cases e : k = sk
    · rw [e, p_upe]; exact hc
    · rw [p_upn e]; exact a3 k h1 (by omega)
theorem p_V_end {b sk : Nat} {sg0 sg : Nat → Int32} (h : p_V b sg0 sk sg) (hv : ¬ p_vs (p_tp sg sk)) : sk = b := by
  refine Classical.byContradiction (fun hn => hv ?_)
  have h1 := h.1
  have h2 := h.2.2.1 (sk - 1) (by omega) (by omega)
  unfold p_tp
  rw [if_pos (by omega)]
  exact h2
def p_C (sk : Nat) (sg : Nat → Int32) : Prop := 0 < sk ∧ sg 0 = Int32.ofInt 40 ∧ ∀ k, k < sk → p_cc (sg k)
theorem p_C_psh {sk : Nat} {sg : Nat → Int32} (h : p_C sk sg) {c : Int32} (hc : p_cc c) : p_C (sk + 1) (upd sg sk c) := by
  obtain ⟨a1, a2, a3⟩ := h
  refine ⟨by omega, ?_, fun k hk => ?_⟩
  · rw [p_upn (by omega)]; exact a2
  · by_cases e : k = sk
    · rw [e, p_upe]; exact hc
    · rw [p_upn e]; exact a3 k (by omega)
theorem p_C_pop {sk : Nat} {sg : Nat → Int32} (h : p_C sk sg) (hn : 1 < sk) : p_C (sk - 1) sg := ⟨by omega, h.2.1, fun k hk => h.2.2 k (by omega)⟩
theorem p_C_sg {sk : Nat} {sg sg' : Nat → Int32} (h : p_C sk sg) (e : ∀ j, j < sk → sg' j = sg j) : p_C sk sg' := ⟨h.1, by rw [e 0 h.1]; exact h.2.1, fun k hk => by rw [e k hk]; exact h.2.2 k hk⟩
theorem p_C_one {sk : Nat} {sg : Nat → Int32} (h : p_C sk sg) (hn : ¬ p_tp sg sk = Int32.ofInt 40) : 1 < sk := by
  refine Classical.byContradiction (fun h1 => hn ?_)
  have e : sk = 1 := by have := h.1; omega
  subst e
  exact h.2.1
theorem p_C_V {sk : Nat} {sg : Nat → Int32} (h : p_C sk sg) : p_V sk sg sk sg := by
  refine ⟨Nat.le_refl _, fun _ _ => rfl, fun k h1 h2 => by omega, fun _ hv => ?_⟩
  have h1 := h.2.2 (sk - 1) (by have := h.1; omega)
  generalize sg (sk - 1) = c at h1 hv
  rcases h1 with (rfl | rfl) | rfl | rfl <;> exact absurd hv (by unfold p_vs p_ti p_pl; decide)
theorem p_cm_nvs {c : Int32} (h : p_cm c) : ¬ p_vs c := by rcases h with rfl | rfl | rfl <;> (unfold p_vs p_ti p_pl; decide)
