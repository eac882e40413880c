theorem q_ilt_ok (a b : Int) : q_ilt a b = true ↔ a < b := by
  unfold q_ilt
  split
  · rename_i m n
    rw [Nat.blt_eq]
    show m < n ↔ ((m : Int) < (n : Int))
    omega
  · rename_i m n
    have h : Int.negSucc m < (n : Int) := by omega
    exact ⟨fun _ => h, fun _ => rfl⟩
  · rename_i m n
    have h : ¬ (m : Int) < Int.negSucc n := by omega
    exact ⟨fun h => (by cases h), fun h2 => absurd h2 h⟩
  · rw [Nat.blt_eq]; omega
theorem q_ile_ok (a b : Int) : q_ile a b = true ↔ a ≤ b := by
  unfold q_ile
  split
  · rename_i m n
    rw [Nat.ble_eq]
    show m ≤ n ↔ ((m : Int) ≤ (n : Int))
    omega
  · rename_i m n
    have h : Int.negSucc m ≤ (n : Int) := by omega
    exact ⟨fun _ => h, fun _ => rfl⟩
  · rename_i m n
    have h : ¬ (m : Int) ≤ Int.negSucc n := by omega
    exact ⟨fun h => (by cases h), fun h2 => absurd h2 h⟩
  · rw [Nat.ble_eq]; omega
theorem q_ieq_ok (a b : Int) : q_ieq a b = true ↔ a = b := by
  unfold q_ieq
  split
  · rename_i m n
    rw [Nat.beq_eq]
    show m = n ↔ ((m : Int) = (n : Int))
    omega
  · rw [Nat.beq_eq]; omega
  · rename_i h1 h2
    refine ⟨fun h => (by cases h), fun h => ?_⟩
    subst h
    cases a with
    | ofNat m => exact (h1 m m rfl rfl).elim
    | negSucc m => exact (h2 m m rfl rfl).elim
theorem q_ilt_f {a b : Int} (h : q_ilt a b = false) : b ≤ a := by
  have : ¬ a < b := fun h2 => by rw [(q_ilt_ok a b).mpr h2] at h; cases h
  omega
theorem q_ile_f {a b : Int} (h : q_ile a b = false) : b < a := by
  have : ¬ a ≤ b := fun h2 => by rw [(q_ile_ok a b).mpr h2] at h; cases h
  omega
theorem q_ieq_f {a b : Int} (h : q_ieq a b = false) : ¬ a = b := fun h2 => by rw [(q_ieq_ok a b).mpr h2] at h; cases h
theorem q_rng (x : Int32) : -2147483648 ≤ x.toInt ∧ x.toInt ≤ 2147483647 := by
  have h1 := BitVec.le_toInt x.toBitVec
  have h2 := BitVec.toInt_lt (x := x.toBitVec)
  have e : x.toInt = x.toBitVec.toInt := rfl
  rw [e]
  constructor <;> omega
theorem q_of (x : Int32) : Int32.ofInt x.toInt = x := by simp
theorem q_ofr {z : Int} (h1 : -2147483648 ≤ z) (h2 : z ≤ 2147483647) : (Int32.ofInt z).toInt = z := by
  rw [Int32.toInt_ofInt]
  have e : (Int32.size : Int) = 4294967296 := rfl
  exact Int.bmod_eq_of_le (by omega) (by omega)
theorem q_inj {x y : Int32} (h : x.toInt = y.toInt) : x = y := Int32.toInt_inj.mp h
theorem q_nrm_ok (z : Int) : q_nrm z = (Int32.ofInt z).toInt := by
  unfold q_nrm
  cases h : (q_ile (-2147483648) z && q_ile z 2147483647) with
  | false => rfl
  | true =>
    rw [Bool.and_eq_true, q_ile_ok, q_ile_ok] at h
    exact (q_ofr h.1 h.2).symm
theorem q_fold_ok (op : Nat) (x y : Int32) : q_fold op x.toInt y.toInt = (q_F op x y).toInt := by
  unfold q_fold
  cases h1 : Nat.beq op 1 with
  | true =>
    have := Nat.eq_of_beq_eq_true h1
    subst this
    show q_nrm (x.toInt + y.toInt) = (x + y).toInt
    rw [q_nrm_ok, Int32.ofInt_add, q_of, q_of]
  | false =>
    cases h2 : Nat.beq op 2 with
    | true =>
      have := Nat.eq_of_beq_eq_true h2
      subst this
      show q_nrm (x.toInt - y.toInt) = (x - y).toInt
      rw [q_nrm_ok, Int32.ofInt_sub, q_of, q_of]
    | false =>
      show (q_F op (Int32.ofInt x.toInt) (Int32.ofInt y.toInt)).toInt = _
      rw [q_of, q_of]
theorem q_iv_ok {ρ : List Int} {env : q_S} (he : q_re ρ env) {a : q_N} {x : Int} (h : q_r ρ a x) : (q_iv env a).1 ≤ x ∧ x ≤ (q_iv env a).2 := by
  cases a with
  | inl c => have h : x = c := h; subst h; exact ⟨Int.le_refl _, Int.le_refl _⟩
  | inr k =>
    have h : ρ[k]? = some x := h
    have hl := (List.getElem?_eq_some_iff.mp h).1
    rw [he.1] at hl
    have h2 : env[k]? = some env[k] := List.getElem?_eq_getElem hl
    obtain ⟨y, h3, h4, h5, -⟩ := he.2 k _ h2
    have : x = y := Option.some.inj (h.symm.trans h3)
    subst this
    unfold q_iv
    simp only [q_nth_eq, h2]
    exact ⟨h4, h5⟩
theorem q_c_ok {ρ : List Int} {env : q_S} (he : q_re ρ env) {a : q_N} {x c : Int} (h : q_r ρ a x) (hc : q_c env a = some c) : x = c := by
  cases a with
  | inl d => cases hc; exact h
  | inr k =>
    have hi := q_iv_ok he h
    unfold q_c at hc
    unfold q_iv at hi
    dsimp only at hc hi
    cases hn : q_nth env k with
    | none => rw [hn] at hc; cases hc
    | some e =>
      rw [hn] at hc hi
      dsimp only at hc hi
      cases hq : q_ieq e.1 e.2.1 with
      | false => rw [hq] at hc; cases hc
      | true =>
        rw [hq] at hc
        cases hc
        have := (q_ieq_ok _ _).mp hq
        omega
theorem q_bd_ok {ρ : List Int} {env : q_S} (he : q_re ρ env) {s : Nat} {x lo hi : Int} (hs : ρ[s]? = some x) (h1 : lo ≤ x) (h2 : x ≤ hi) : q_re ρ (q_bd env s lo hi) := by
  unfold q_bd
  simp only [q_nth_eq, q_put_eq]
  split
  · rename_i e hes
    refine ⟨by rw [List.length_set]; exact he.1, fun k e' hk => ?_⟩
    by_cases hks : k = s
    · subst hks
      rw [List.getElem?_set_self (List.getElem?_eq_some_iff.mp hes).1] at hk
      cases hk
      obtain ⟨y, h3, -, -, h6⟩ := he.2 k e hes
      have : x = y := Option.some.inj (hs.symm.trans h3)
      subst this
      exact ⟨x, hs, h1, h2, h6⟩
    · rw [List.getElem?_set_ne (Ne.symm hks)] at hk
      exact he.2 k e' hk
  · exact he
theorem q_new_ok {ρ : List Int} {env : q_S} (he : q_re ρ env) {e : q_E} {z : Int} (h1 : e.1 ≤ z) (h2 : z ≤ e.2.1) (h3 : e.2.2.1 = 0 ∨ ∃ u v : Int32, q_r ρ e.2.2.2.1 u.toInt ∧ q_r ρ e.2.2.2.2 v.toInt ∧ z = (q_F e.2.2.1 u v).toInt) : q_px ρ (ρ ++ [z]) ∧ q_re (ρ ++ [z]) (q_app env e) ∧ q_r (ρ ++ [z]) (.inr (q_len env)) z := by
  have hp : q_px ρ (ρ ++ [z]) := ⟨[z], rfl⟩
  refine ⟨hp, ⟨by rw [q_app_eq]; simp [he.1], fun k e' hk => ?_⟩, ?_⟩
  · rw [q_app_eq] at hk
    by_cases hl : k < env.length
    · rw [List.getElem?_append_left hl] at hk
      obtain ⟨x, a1, a2, a3, a4⟩ := he.2 k e' hk
      refine ⟨x, q_r_px (a := .inr k) hp a1, a2, a3, a4.imp id (fun ⟨u, v, b1, b2, b3⟩ => ⟨u, v, q_r_px hp b1, q_r_px hp b2, b3⟩)⟩
    · rw [List.getElem?_append_right (by omega)] at hk
      have hz : k - env.length < 1 := (List.getElem?_eq_some_iff.mp hk).1
      have e0 : k - env.length = 0 := by omega
      rw [e0] at hk
      cases hk
      have ek : k = ρ.length := by rw [he.1]; omega
      refine ⟨z, by rw [ek]; simp, h1, h2, h3.imp id (fun ⟨u, v, b1, b2, b3⟩ => ⟨u, v, q_r_px hp b1, q_r_px hp b2, b3⟩)⟩
  · show (ρ ++ [z])[q_len env]? = some z
    rw [q_len_eq, ← he.1]
    simp
theorem q_and_iv {x y : Int32} (h : 0 ≤ y.toInt) : 0 ≤ (x &&& y).toInt ∧ (x &&& y).toInt ≤ y.toInt := by
  have e1 : (x &&& y).toInt = (x.toBitVec &&& y.toBitVec).toInt := rfl
  have e2 : y.toInt = y.toBitVec.toInt := rfl
  rw [e1, e2]
  rw [e2] at h
  have hy : y.toBitVec.toNat < 2 ^ 31 := by
    rw [BitVec.toInt_eq_toNat_cond] at h
    have := y.toBitVec.isLt
    split at h
    · omega
    · omega
  have ha : (x.toBitVec &&& y.toBitVec).toNat ≤ y.toBitVec.toNat := by
    rw [BitVec.toNat_and]
    exact Nat.and_le_right
  rw [BitVec.toInt_eq_toNat_cond, BitVec.toInt_eq_toNat_cond, if_pos (by omega), if_pos (by omega)]
  constructor
  · omega
  · exact Int.ofNat_le.mpr ha
theorem q_and_comm (x y : Int32) : x &&& y = y &&& x := Int32.and_comm x y
theorem q_ivop_ok (op : Nat) {x y : Int32} {p q : Int × Int} (h1 : p.1 ≤ x.toInt ∧ x.toInt ≤ p.2) (h2 : q.1 ≤ y.toInt ∧ y.toInt ≤ q.2) : (q_ivop op p q).1 ≤ (q_F op x y).toInt ∧ (q_F op x y).toInt ≤ (q_ivop op p q).2 := by
  have hall : ∀ w : Int32, (-2147483648 : Int) ≤ w.toInt ∧ w.toInt ≤ 2147483647 := q_rng
  unfold q_ivop
  split
  · show _ ≤ (x + y).toInt ∧ (x + y).toInt ≤ _
    cases hb : (q_ile (-2147483648) (p.1 + q.1) && q_ile (p.2 + q.2) 2147483647) with
    | false => exact hall _
    | true =>
      rw [Bool.and_eq_true, q_ile_ok, q_ile_ok] at hb
      have e : (x + y).toInt = x.toInt + y.toInt := by
        rw [← q_of x, ← q_of y, ← Int32.ofInt_add, q_of, q_of]
        exact q_ofr (by omega) (by omega)
      rw [e]
      dsimp only [cond_true]
      constructor <;> omega
  · show _ ≤ (x - y).toInt ∧ (x - y).toInt ≤ _
    cases hb : (q_ile (-2147483648) (p.1 - q.2) && q_ile (p.2 - q.1) 2147483647) with
    | false => exact hall _
    | true =>
      rw [Bool.and_eq_true, q_ile_ok, q_ile_ok] at hb
      have e : (x - y).toInt = x.toInt - y.toInt := by
        rw [← q_of x, ← q_of y, ← Int32.ofInt_sub, q_of, q_of]
        exact q_ofr (by omega) (by omega)
      rw [e]
      dsimp only [cond_true]
      constructor <;> omega
  · show _ ≤ (x * y).toInt ∧ (x * y).toInt ≤ _
    cases hb : (q_ile 0 p.1 && (q_ile 0 q.1 && q_ile (p.2 * q.2) 2147483647)) with
    | false => exact hall _
    | true =>
      rw [Bool.and_eq_true, Bool.and_eq_true, q_ile_ok, q_ile_ok, q_ile_ok] at hb
      obtain ⟨b1, b2, b3⟩ := hb
      have m0 : 0 ≤ p.1 * q.1 := Int.mul_nonneg b1 b2
      have m1 : p.1 * q.1 ≤ x.toInt * y.toInt := Int.mul_le_mul h1.1 h2.1 b2 (by omega)
      have m2 : x.toInt * y.toInt ≤ p.2 * q.2 := Int.mul_le_mul h1.2 h2.2 (by omega) (by omega)
      have e : (x * y).toInt = x.toInt * y.toInt := by
        rw [← q_of x, ← q_of y, ← Int32.ofInt_mul, q_of, q_of]
        exact q_ofr (by omega) (by omega)
      rw [e]
      exact ⟨m1, m2⟩
  · show _ ≤ (x &&& y).toInt ∧ (x &&& y).toInt ≤ _
    cases hb : q_ile 0 q.1 with
    | true =>
      rw [q_ile_ok] at hb
      have := q_and_iv (x := x) (y := y) (by omega)
      dsimp only [cond_true]
      constructor <;> omega
    | false =>
      cases hc : q_ile 0 p.1 with
      | true =>
        rw [q_ile_ok] at hc
        have := q_and_iv (x := y) (y := x) (by omega)
        rw [q_and_comm]
        dsimp only [cond_true, cond_false]
        constructor <;> omega
      | false => exact hall _
  · exact hall _
theorem q_nb_ok {a b : q_N} (h : q_nb a b = true) : a = b := by
  unfold q_nb at h
  split at h
  · rw [q_ieq_ok] at h; rw [h]
  · rw [Nat.eq_of_beq_eq_true h]
  · cases h
theorem q_cse_ok (op : Nat) (a b : q_N) : ∀ (env : q_S) (k0 s : Nat), List.rec (motive := fun _ => Nat → Option Nat) (fun _ => none) (fun h _ ih k => bif Nat.beq h.2.2.1 op && (q_nb h.2.2.2.1 a && q_nb h.2.2.2.2 b) then some k else ih (Nat.succ k)) env k0 = some s → ∃ e, k0 ≤ s ∧ env[s - k0]? = some e ∧ e.2.2.1 = op ∧ e.2.2.2.1 = a ∧ e.2.2.2.2 = b
  | [], k0, s, h => by cases h
  | e :: r, k0, s, h => by
    have h : (bif Nat.beq e.2.2.1 op && (q_nb e.2.2.2.1 a && q_nb e.2.2.2.2 b) then some k0 else List.rec (motive := fun _ => Nat → Option Nat) (fun _ => none) (fun h _ ih k => bif Nat.beq h.2.2.1 op && (q_nb h.2.2.2.1 a && q_nb h.2.2.2.2 b) then some k else ih (Nat.succ k)) r (Nat.succ k0)) = some s := h
    cases hb : (Nat.beq e.2.2.1 op && (q_nb e.2.2.2.1 a && q_nb e.2.2.2.2 b)) with
    | true =>
      rw [hb] at h
      cases h
      rw [Bool.and_eq_true, Bool.and_eq_true] at hb
      exact ⟨e, Nat.le_refl _, by simp, Nat.eq_of_beq_eq_true hb.1, q_nb_ok hb.2.1, q_nb_ok hb.2.2⟩
    | false =>
      rw [hb] at h
      obtain ⟨e2, h1, h2, h3⟩ := q_cse_ok op a b r (Nat.succ k0) s h
      refine ⟨e2, by omega, ?_, h3⟩
      have : s - k0 = (s - Nat.succ k0) + 1 := by omega
      rw [this]
      simpa using h2
def q_bok (k : q_N → q_S → Bool) (ρ : List Int) (z : Int) : Prop := ∃ ρ' env' v, q_px ρ ρ' ∧ q_re ρ' env' ∧ q_r ρ' v z ∧ k v env' = true
theorem q_bin3_ok {ρ : List Int} {env : q_S} (he : q_re ρ env) {op : Nat} (hop : op ≠ 0) {a b : q_N} {x y : Int32} (ha : q_r ρ a x.toInt) (hb : q_r ρ b y.toInt) {k : q_N → q_S → Bool} (h : q_bin3 op a b env k = true) : q_bok k ρ (q_F op x y).toInt := by
  unfold q_bin3 at h
  split at h
  · rename_i s hs
    obtain ⟨e, -, h2, h3, h4, h5⟩ := q_cse_ok op a b env 0 s hs
    obtain ⟨z, b1, -, -, b4⟩ := he.2 _ e h2
    rcases b4 with b4 | ⟨u, v, c1, c2, c3⟩
    · exact absurd (h3.symm.trans b4) hop
    · rw [h4] at c1
      rw [h5] at c2
      have e1 := q_inj (q_r_inj c1 ha)
      have e2 := q_inj (q_r_inj c2 hb)
      subst e1 e2
      rw [h3] at c3
      refine ⟨ρ, env, .inr s, q_px_rf ρ, he, ?_, h⟩
      show ρ[s]? = some _
      rw [← c3]
      exact b1
  · have hi := q_ivop_ok op (q_iv_ok he ha) (q_iv_ok he hb)
    obtain ⟨n1, n2, n3⟩ := q_new_ok he (e := ((q_ivop op (q_iv env a) (q_iv env b)).1, (q_ivop op (q_iv env a) (q_iv env b)).2, op, a, b)) hi.1 hi.2 (Or.inr ⟨x, y, ha, hb, rfl⟩)
    exact ⟨_, _, _, n1, n2, n3, h⟩
theorem q_m1_and (y : Int32) : (-1 : Int32) &&& y = y := by
  apply Int32.toBitVec_inj.mp
  rw [Int32.toBitVec_and]
  have : (-1 : Int32).toBitVec = BitVec.allOnes 32 := by decide
  rw [this, BitVec.allOnes_and]
theorem q_bin2_ok {ρ : List Int} {env : q_S} (he : q_re ρ env) {op : Nat} (hop : op ≠ 0) {a b : q_N} {x y : Int32} (ha : q_r ρ a x.toInt) (hb : q_r ρ b y.toInt) {k : q_N → q_S → Bool} (h : q_bin2 op a b env k = true) : q_bok k ρ (q_F op x y).toInt := by
  have hz : ∀ w : Int32, w.toInt = 0 → w = 0 := fun w hw => q_inj (by rw [hw]; rfl)
  have hm : ∀ w : Int32, w.toInt = -1 → w = -1 := fun w hw => q_inj (by rw [hw]; rfl)
  unfold q_bin2 at h
  split at h
  · rename_i c hc
    have e1 := q_c_ok he ha hc
    split at h
    · rename_i d hd
      have e2 := q_c_ok he hb hd
      refine ⟨ρ, env, _, q_px_rf ρ, he, ?_, h⟩
      rw [← e1, ← e2]
      exact (q_fold_ok op x y).symm
    · cases h1 : (Nat.beq op 4 && q_ieq c 0) with
      | true =>
        rw [h1] at h
        rw [Bool.and_eq_true, q_ieq_ok] at h1
        have e4 := Nat.eq_of_beq_eq_true h1.1
        subst e4
        refine ⟨ρ, env, _, q_px_rf ρ, he, ?_, h⟩
        rw [hz x (e1.trans h1.2)]
        show ((0 : Int32) &&& y).toInt = 0
        rw [Int32.zero_and]
        rfl
      | false =>
        rw [h1] at h
        cases h2 : (Nat.beq op 4 && q_ieq c (-1)) with
        | true =>
          rw [h2] at h
          rw [Bool.and_eq_true, q_ieq_ok] at h2
          have e4 := Nat.eq_of_beq_eq_true h2.1
          subst e4
          refine ⟨ρ, env, _, q_px_rf ρ, he, ?_, h⟩
          rw [hm x (e1.trans h2.2)]
          show q_r ρ b ((-1 : Int32) &&& y).toInt
          rw [q_m1_and]
          exact hb
        | false =>
          rw [h2] at h
          exact q_bin3_ok he hop ha hb h
  · split at h
    · rename_i d hd
      have e2 := q_c_ok he hb hd
      cases h1 : (Nat.beq op 4 && q_ieq d 0) with
      | true =>
        rw [h1] at h
        rw [Bool.and_eq_true, q_ieq_ok] at h1
        have e4 := Nat.eq_of_beq_eq_true h1.1
        subst e4
        refine ⟨ρ, env, _, q_px_rf ρ, he, ?_, h⟩
        rw [hz y (e2.trans h1.2)]
        show (x &&& (0 : Int32)).toInt = 0
        rw [Int32.and_zero]
        rfl
      | false =>
        rw [h1] at h
        cases h2 : (Nat.beq op 4 && q_ieq d (-1)) with
        | true =>
          rw [h2] at h
          rw [Bool.and_eq_true, q_ieq_ok] at h2
          have e4 := Nat.eq_of_beq_eq_true h2.1
          subst e4
          refine ⟨ρ, env, _, q_px_rf ρ, he, ?_, h⟩
          rw [hm y (e2.trans h2.2)]
          show q_r ρ a (x &&& (-1 : Int32)).toInt
          rw [q_and_comm, q_m1_and]
          exact ha
        | false =>
          rw [h2] at h
          exact q_bin3_ok he hop ha hb h
    · exact q_bin3_ok he hop ha hb h
theorem q_en_ok {ρ : List Int} {env : q_S} (he : q_re ρ env) {s : Nat} {x hi : Int} (hs : ρ[s]? = some x) (h2 : x ≤ hi) {k : Int → q_S → Bool} : ∀ (fuel : Nat) (lo : Int), lo ≤ x → q_en s hi env k fuel lo = true → ∃ env', q_re ρ env' ∧ k x env' = true
  | 0, lo, _, h => by cases h
  | n + 1, lo, hl, h => by
    have h : (k lo (q_bd env s lo lo) && (bif q_ile hi lo then true else q_en s hi env k n (lo + 1))) = true := h
    rw [Bool.and_eq_true] at h
    by_cases e : lo = x
    · subst e
      exact ⟨_, q_bd_ok he hs (Int.le_refl _) (Int.le_refl _), h.1⟩
    · cases hb : q_ile hi lo with
      | true => rw [q_ile_ok] at hb; omega
      | false =>
        rw [hb] at h
        exact q_en_ok he hs h2 n (lo + 1) (by omega) h.2
theorem q_need_ok {ρ : List Int} {env : q_S} (he : q_re ρ env) {a : q_N} {x : Int} (ha : q_r ρ a x) {k : Int → q_S → Bool} (h : q_need a env k = true) : ∃ env', q_re ρ env' ∧ k x env' = true := by
  cases a with
  | inl c => have ha : x = c := ha; subst ha; exact ⟨env, he, h⟩
  | inr s =>
    have hi := q_iv_ok he ha
    exact q_en_ok he ha hi.2 64 _ hi.1 h
theorem q_is_ok {o : Option Int} {c : Int} (h : q_is o c = true) : o = some c := by
  unfold q_is at h
  split at h
  · rw [q_ieq_ok] at h; rw [h]
  · cases h
theorem q_sh0 (op : Nat) (y : Int32) (h : q_shift op = true) : (q_F op 0 y).toInt = 0 := by
  unfold q_shift at h
  simp only [Bool.or_eq_true] at h
  rcases h with h | h | h
  · have := Nat.eq_of_beq_eq_true h
    subst this
    show ((0 : Int32) <<< (y &&& 31)).toInt = 0
    rw [Int32.zero_shiftLeft]; rfl
  · have := Nat.eq_of_beq_eq_true h
    subst this
    show ((0 : Int32) >>> (y &&& 31)).toInt = 0
    rw [Int32.zero_shiftRight]; rfl
  · have := Nat.eq_of_beq_eq_true h
    subst this
    show (((0 : Int32).toUInt32 >>> (y.toUInt32 &&& Int32.toUInt32 31)).toInt32).toInt = 0
    have e : (0 : Int32).toUInt32 = 0 := rfl
    rw [e, UInt32.zero_shiftRight]; rfl
theorem q_bin_ok {ρ : List Int} {env : q_S} (he : q_re ρ env) {op : Nat} (hop : op ≠ 0) {a b : q_N} {x y : Int32} (ha : q_r ρ a x.toInt) (hb : q_r ρ b y.toInt) {k : q_N → q_S → Bool} (h : q_bin op a b env k = true) : q_bok k ρ (q_F op x y).toInt := by
  unfold q_bin at h
  cases hs : q_shift op with
  | false => rw [hs] at h; exact q_bin2_ok he hop ha hb h
  | true =>
    rw [hs] at h
    dsimp only [cond_true] at h
    cases h0 : q_is (q_c env a) 0 with
    | true =>
      rw [h0] at h
      have e := q_c_ok he ha (q_is_ok h0)
      have e2 : x = 0 := q_inj (by rw [e]; rfl)
      subst e2
      exact ⟨ρ, env, .inl 0, q_px_rf ρ, he, q_sh0 op y hs, h⟩
    | false =>
      rw [h0] at h
      dsimp only [cond_false] at h
      obtain ⟨env', he', h'⟩ := q_need_ok he hb h
      exact q_bin2_ok he' hop ha (b := .inl y.toInt) rfl h'
theorem q_lt_ok {ρ : List Int} {env : q_S} (he : q_re ρ env) {a b : q_N} {x y : Int} (ha : q_r ρ a x) (hb : q_r ρ b y) {kt kf : q_S → Bool} (h : q_lt a b env kt kf = true) : (x < y ∧ ∃ env', q_re ρ env' ∧ kt env' = true) ∨ (y ≤ x ∧ ∃ env', q_re ρ env' ∧ kf env' = true) := by
  have i1 := q_iv_ok he ha
  have i2 := q_iv_ok he hb
  unfold q_lt at h
  cases h1 : q_ilt (q_iv env a).2 (q_iv env b).1 with
  | true =>
    rw [h1] at h
    rw [q_ilt_ok] at h1
    exact Or.inl ⟨by omega, env, he, h⟩
  | false =>
    rw [h1] at h
    cases h2 : q_ile (q_iv env b).2 (q_iv env a).1 with
    | true =>
      rw [h2] at h
      rw [q_ile_ok] at h2
      exact Or.inr ⟨by omega, env, he, h⟩
    | false =>
      rw [h2] at h
      dsimp only [cond_false] at h
      split at h
      · rename_i s d
        rw [Bool.and_eq_true] at h
        have hb : y = d := hb
        subst hb
        by_cases hc : x < y
        · exact Or.inl ⟨hc, _, q_bd_ok he ha i1.1 (by omega), h.1⟩
        · exact Or.inr ⟨by omega, _, q_bd_ok he ha (by omega) i1.2, h.2⟩
      · rename_i d s
        rw [Bool.and_eq_true] at h
        have ha : x = d := ha
        subst ha
        by_cases hc : x < y
        · exact Or.inl ⟨hc, _, q_bd_ok he hb (by omega) i2.2, h.1⟩
        · exact Or.inr ⟨by omega, _, q_bd_ok he hb i2.1 (by omega), h.2⟩
      · rw [Bool.and_eq_true] at h
        by_cases hc : x < y
        · refine Or.inl ⟨hc, _, q_bd_ok he ha i1.1 ?_, h.1⟩
          cases q_ilt ((q_iv env _).2 - 1) (q_iv env _).2 with
          | true => show x ≤ _ - 1; omega
          | false => exact i1.2
        · exact Or.inr ⟨by omega, env, he, h.2⟩
      · rw [Bool.and_eq_true] at h
        by_cases hc : x < y
        · exact Or.inl ⟨hc, env, he, h.1⟩
        · exact Or.inr ⟨by omega, env, he, h.2⟩
theorem q_eq3_ok {ρ : List Int} {env : q_S} (he : q_re ρ env) {s : Nat} {x lo hi c : Int} (hs : ρ[s]? = some x) (h1 : lo ≤ x) (h2 : x ≤ hi) {kt kf : q_S → Bool} (h : q_eq3 s lo hi c env kt kf = true) : (x = c ∧ ∃ env', q_re ρ env' ∧ kt env' = true) ∨ (¬ x = c ∧ ∃ env', q_re ρ env' ∧ kf env' = true) := by
  unfold q_eq3 at h
  rw [Bool.and_eq_true, Bool.and_eq_true] at h
  obtain ⟨a1, a2, a3⟩ := h
  by_cases e : x = c
  · subst e
    exact Or.inl ⟨rfl, _, q_bd_ok he hs (Int.le_refl _) (Int.le_refl _), a1⟩
  · refine Or.inr ⟨e, ?_⟩
    by_cases hl : x < c
    · have : q_ilt lo c = true := (q_ilt_ok _ _).mpr (by omega)
      rw [this] at a2
      exact ⟨_, q_bd_ok he hs h1 (by omega), a2⟩
    · have : q_ilt c hi = true := (q_ilt_ok _ _).mpr (by omega)
      rw [this] at a3
      exact ⟨_, q_bd_ok he hs (by omega) h2, a3⟩
theorem q_eq_ok {ρ : List Int} {env : q_S} (he : q_re ρ env) {a b : q_N} {x y : Int} (ha : q_r ρ a x) (hb : q_r ρ b y) {kt kf : q_S → Bool} (h : q_eq a b env kt kf = true) : (x = y ∧ ∃ env', q_re ρ env' ∧ kt env' = true) ∨ (¬ x = y ∧ ∃ env', q_re ρ env' ∧ kf env' = true) := by
  have i1 := q_iv_ok he ha
  have i2 := q_iv_ok he hb
  unfold q_eq at h
  cases h0 : q_nb a b with
  | true =>
    rw [h0] at h
    have := q_nb_ok h0
    subst this
    exact Or.inl ⟨q_r_inj ha hb, env, he, h⟩
  | false =>
    rw [h0] at h
    cases h1 : q_ilt (q_iv env a).2 (q_iv env b).1 with
    | true =>
      rw [h1] at h
      rw [q_ilt_ok] at h1
      exact Or.inr ⟨by omega, env, he, h⟩
    | false =>
      rw [h1] at h
      cases h2 : q_ilt (q_iv env b).2 (q_iv env a).1 with
      | true =>
        rw [h2] at h
        rw [q_ilt_ok] at h2
        exact Or.inr ⟨by omega, env, he, h⟩
      | false =>
        rw [h2] at h
        dsimp only [cond_false] at h
        split at h
        · rename_i u v hu hv
          have e1 := q_c_ok he ha hu
          have e2 := q_c_ok he hb hv
          cases h3 : q_ieq u v with
          | true =>
            rw [h3] at h
            rw [q_ieq_ok] at h3
            exact Or.inl ⟨by omega, env, he, h⟩
          | false =>
            rw [h3] at h
            have := q_ieq_f h3
            exact Or.inr ⟨by omega, env, he, h⟩
        · rename_i v hu hv
          have e2 := q_c_ok he hb hv
          subst e2
          split at h
          · exact q_eq3_ok he ha i1.1 i1.2 h
          · cases h
        · rename_i u hu hv
          have e1 := q_c_ok he ha hu
          subst e1
          split at h
          · rcases q_eq3_ok he hb i2.1 i2.2 h with ⟨g1, g2⟩ | ⟨g1, g2⟩
            · exact Or.inl ⟨g1.symm, g2⟩
            · exact Or.inr ⟨fun e => g1 e.symm, g2⟩
          · cases h
        · rw [Bool.and_eq_true] at h
          by_cases hc : x = y
          · exact Or.inl ⟨hc, env, he, h.1⟩
          · exact Or.inr ⟨hc, env, he, h.2⟩
theorem q_idx_ok {ρ : List Int} {env : q_S} (he : q_re ρ env) {a : q_N} {x : Int} (ha : q_r ρ a x) {n : Nat} {k : Nat → q_S → Bool} (h : q_idx a n env k = true) : 0 ≤ x ∧ x < (n : Int) ∧ ∃ env', q_re ρ env' ∧ k x.toNat env' = true := by
  have i1 := q_iv_ok he ha
  unfold q_idx at h
  cases hb : (q_ile 0 (q_iv env a).1 && q_ilt (q_iv env a).2 (n : Int)) with
  | false => rw [hb] at h; cases h
  | true =>
    rw [hb] at h
    rw [Bool.and_eq_true, q_ile_ok, q_ilt_ok] at hb
    exact ⟨by omega, by omega, q_need_ok he ha h⟩
