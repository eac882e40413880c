theorem v_mx_l (a b : Int) : a ≤ v_mx a b := by
  unfold v_mx
  cases h : q_ile a b with
  | true => exact (q_ile_ok _ _).mp h
  | false => exact Int.le_refl _
theorem v_mx_r (a b : Int) : b ≤ v_mx a b := by
  unfold v_mx
  cases h : q_ile a b with
  | true => exact Int.le_refl _
  | false => exact Int.le_of_lt (q_ile_f h)
theorem v_mx_le {a b c : Int} (h1 : a ≤ c) (h2 : b ≤ c) : v_mx a b ≤ c := by
  unfold v_mx
  cases h : q_ile a b with
  | true => exact h2
  | false => exact h1
theorem v_mn_l (a b : Int) : v_mn a b ≤ a := by
  unfold v_mn
  cases h : q_ile a b with
  | true => exact Int.le_refl _
  | false => exact Int.le_of_lt (q_ile_f h)
theorem v_mn_r (a b : Int) : v_mn a b ≤ b := by
  unfold v_mn
  cases h : q_ile a b with
  | true => exact (q_ile_ok _ _).mp h
  | false => exact Int.le_refl _
theorem v_le_mn {a b c : Int} (h1 : c ≤ a) (h2 : c ≤ b) : c ≤ v_mn a b := by
  unfold v_mn
  cases h : q_ile a b with
  | true => exact h1
  | false => exact h2
theorem v_nn {x : Int32} (h : 0 ≤ x.toInt) : x.toInt = (x.toBitVec.toNat : Int) ∧ x.toBitVec.toNat < 2 ^ 31 := by
  have e2 : x.toInt = x.toBitVec.toInt := rfl
  rw [e2] at h ⊢
  have h3 := x.toBitVec.isLt
  rw [BitVec.toInt_eq_toNat_cond] at h ⊢
  split at h
  · rename_i h4
    rw [if_pos h4]
    exact ⟨rfl, by omega⟩
  · omega
theorem v_nn2 {x : Int32} (h : x.toBitVec.toNat < 2 ^ 31) : x.toInt = (x.toBitVec.toNat : Int) := by
  have e2 : x.toInt = x.toBitVec.toInt := rfl
  rw [e2, BitVec.toInt_eq_toNat_cond, if_pos (by omega)]
theorem v_cap_ok {a b : Int} {m n : Nat} (h1 : (m : Int) ≤ a) (h2 : (n : Int) ≤ b) : ∃ k : Nat, v_cap a b = ((2 ^ k - 1 : Nat) : Int) ∧ m < 2 ^ k ∧ n < 2 ^ k := by
  refine ⟨Nat.log2 (v_mx a b).toNat + 1, rfl, ?_, ?_⟩
  · have h3 := v_mx_l a b
    have h4 := Nat.lt_log2_self (n := (v_mx a b).toNat)
    omega
  · have h3 := v_mx_r a b
    have h4 := Nat.lt_log2_self (n := (v_mx a b).toNat)
    omega
theorem v_or_ok {x y : Int32} {p q : Int × Int} (h1 : p.1 ≤ x.toInt ∧ x.toInt ≤ p.2) (h2 : q.1 ≤ y.toInt ∧ y.toInt ≤ q.2) (b1 : 0 ≤ p.1) (b2 : 0 ≤ q.1) : v_mx p.1 q.1 ≤ (x ||| y).toInt ∧ (x ||| y).toInt ≤ v_cap p.2 q.2 := by
  obtain ⟨e1, l1⟩ := v_nn (x := x) (by omega)
  obtain ⟨e2, l2⟩ := v_nn (x := y) (by omega)
  have e3 : (x ||| y).toBitVec.toNat = x.toBitVec.toNat ||| y.toBitVec.toNat := by
    rw [Int32.toBitVec_or, BitVec.toNat_or]
  have l3 : (x ||| y).toBitVec.toNat < 2 ^ 31 := by rw [e3]; exact Nat.or_lt_two_pow l1 l2
  rw [v_nn2 l3, e3]
  obtain ⟨k, ek, k1, k2⟩ := v_cap_ok (a := p.2) (b := q.2) (m := x.toBitVec.toNat) (n := y.toBitVec.toNat) (by omega) (by omega)
  have k3 := Nat.or_lt_two_pow k1 k2
  rw [ek]
  have l4 : x.toBitVec.toNat ≤ x.toBitVec.toNat ||| y.toBitVec.toNat := Nat.left_le_or
  have l5 : y.toBitVec.toNat ≤ x.toBitVec.toNat ||| y.toBitVec.toNat := Nat.right_le_or
  exact ⟨v_mx_le (by omega) (by omega), by omega⟩
theorem v_xor_ok {x y : Int32} {p q : Int × Int} (h1 : p.1 ≤ x.toInt ∧ x.toInt ≤ p.2) (h2 : q.1 ≤ y.toInt ∧ y.toInt ≤ q.2) (b1 : 0 ≤ p.1) (b2 : 0 ≤ q.1) : 0 ≤ (x ^^^ y).toInt ∧ (x ^^^ y).toInt ≤ v_cap p.2 q.2 := by
  obtain ⟨e1, l1⟩ := v_nn (x := x) (by omega)
  obtain ⟨e2, l2⟩ := v_nn (x := y) (by omega)
  have e3 : (x ^^^ y).toBitVec.toNat = x.toBitVec.toNat ^^^ y.toBitVec.toNat := by
    rw [Int32.toBitVec_xor, BitVec.toNat_xor]
  have l3 : (x ^^^ y).toBitVec.toNat < 2 ^ 31 := by rw [e3]; exact Nat.xor_lt_two_pow l1 l2
  rw [v_nn2 l3, e3]
  obtain ⟨k, ek, k1, k2⟩ := v_cap_ok (a := p.2) (b := q.2) (m := x.toBitVec.toNat) (n := y.toBitVec.toNat) (by omega) (by omega)
  have k3 := Nat.xor_lt_two_pow k1 k2
  rw [ek]
  exact ⟨by omega, by omega⟩
theorem v_shl1 : ∀ k : Fin 31, ((1 : Int32) <<< (Int32.ofInt ((k : Nat) : Int) &&& 31)).toInt = ((2 ^ (k : Nat) : Nat) : Int) := by decide
theorem v_shl_ok {x y : Int32} {q : Int × Int} (h1 : x.toInt = 1) (h2 : q.1 ≤ y.toInt ∧ y.toInt ≤ q.2) (b1 : 0 ≤ q.1) (b2 : q.2 ≤ 30) : ((2 ^ q.1.toNat : Nat) : Int) ≤ (x <<< (y &&& 31)).toInt ∧ (x <<< (y &&& 31)).toInt ≤ ((2 ^ q.2.toNat : Nat) : Int) := by
  have ex : x = 1 := q_inj (by rw [h1]; rfl)
  subst ex
  have ey : y = Int32.ofInt ((y.toInt.toNat : Nat) : Int) := by
    rw [show ((y.toInt.toNat : Nat) : Int) = y.toInt by omega, q_of]
  have hk := v_shl1 ⟨y.toInt.toNat, by omega⟩
  dsimp only at hk
  rw [← ey] at hk
  rw [hk]
  have m1 : 2 ^ q.1.toNat ≤ 2 ^ y.toInt.toNat := Nat.pow_le_pow_right (by omega) (by omega)
  have m2 : 2 ^ y.toInt.toNat ≤ 2 ^ q.2.toNat := Nat.pow_le_pow_right (by omega) (by omega)
  exact ⟨Int.ofNat_le.mpr m1, Int.ofNat_le.mpr m2⟩
theorem v_shr_ok {x : Int32} (y : Int32) (h : 0 ≤ x.toInt) : 0 ≤ (x >>> y).toInt ∧ (x >>> y).toInt ≤ x.toInt := by
  have e : (x >>> y).toInt = x.toBitVec.toInt >>> (y.toBitVec.smod 32).toNat := by
    show (x >>> y).toBitVec.toInt = _
    rw [Int32.toBitVec_shiftRight, BitVec.sshiftRight_eq', BitVec.toInt_sshiftRight]
  have e2 : x.toInt = x.toBitVec.toInt := rfl
  rw [e, e2, Int.shiftRight_eq_div_pow]
  rw [e2] at h
  have hp : (0 : Int) < ((2 ^ (y.toBitVec.smod 32).toNat : Nat) : Int) := Int.ofNat_lt.mpr (Nat.two_pow_pos _)
  exact ⟨Int.ediv_nonneg h (Int.le_of_lt hp), Int.ediv_le_self _ h⟩
theorem v_div_e {x y : Int32} (h1 : 0 ≤ x.toInt) (h2 : 1 ≤ y.toInt) : (x / y).toInt = x.toInt.tdiv y.toInt ∧ 0 ≤ x.toInt.tdiv y.toInt ∧ x.toInt.tdiv y.toInt ≤ x.toInt := by
  have n1 : 0 ≤ x.toInt.tdiv y.toInt := Int.tdiv_nonneg h1 (by omega)
  have n2 : x.toInt.tdiv y.toInt ≤ x.toInt := Int.tdiv_le_self _ h1
  have r1 := q_rng x
  refine ⟨?_, n1, n2⟩
  rw [Int32.toInt_div]
  exact Int.bmod_eq_of_le (by omega) (by omega)
theorem v_rem_ok {x y : Int32} {p q : Int × Int} (h1 : p.1 ≤ x.toInt ∧ x.toInt ≤ p.2) (h2 : q.1 ≤ y.toInt ∧ y.toInt ≤ q.2) (b1 : 0 ≤ p.1) (b2 : 1 ≤ q.1) : 0 ≤ (x - x / y * y).toInt ∧ (x - x / y * y).toInt ≤ v_mn p.2 (q.2 - 1) := by
  obtain ⟨e1, n1, n2⟩ := v_div_e (x := x) (y := y) (by omega) (by omega)
  have t0 : x.toInt.tmod y.toInt = x.toInt - y.toInt * x.toInt.tdiv y.toInt := Int.tmod_def _ _
  have t1 : 0 ≤ x.toInt.tmod y.toInt := Int.tmod_nonneg _ (by omega)
  have t2 : x.toInt.tmod y.toInt < y.toInt := Int.tmod_lt_of_pos _ (by omega)
  have n3 : 0 ≤ y.toInt * x.toInt.tdiv y.toInt := Int.mul_nonneg (by omega) n1
  have r1 := q_rng x
  have em : (x / y * y).toInt = y.toInt * x.toInt.tdiv y.toInt := by
    rw [← q_of (x / y), ← q_of y, ← Int32.ofInt_mul, q_of, e1, Int.mul_comm]
    exact q_ofr (by omega) (by omega)
  have es : (x - x / y * y).toInt = x.toInt.tmod y.toInt := by
    rw [← q_of x, ← q_of (Int32.ofInt x.toInt / y * y), ← Int32.ofInt_sub, q_of, em, ← t0]
    exact q_ofr (by omega) (by omega)
  rw [es]
  exact ⟨t1, v_le_mn (by omega) (by omega)⟩
theorem v_popN_le : ∀ (f k n : Nat), n < 2 ^ k → v_popN f n ≤ k
  | 0, k, n, _ => Nat.zero_le _
  | f + 1, 0, n, h => by
    have : n = 0 := by simpa using h
    subst this
    have := v_popN_le f 0 0 (by decide)
    show 0 % 2 + v_popN f (0 / 2) ≤ 0
    simpa using this
  | f + 1, k + 1, n, h => by
    have := v_popN_le f k (n / 2) (by rw [Nat.pow_succ] at h; omega)
    show n % 2 + v_popN f (n / 2) ≤ k + 1
    omega
theorem v_popN_f : ∀ (f n : Nat), v_popN f n ≤ f
  | 0, _ => Nat.le_refl _
  | f + 1, n => by
    have := v_popN_f f (n / 2)
    show n % 2 + v_popN f (n / 2) ≤ f + 1
    omega
theorem v_popN_pos : ∀ (f n : Nat), n < 2 ^ f → 1 ≤ n → 1 ≤ v_popN f n
  | 0, n, h, h2 => by
    have : n = 0 := by simpa using h
    omega
  | f + 1, n, h, h2 => by
    show 1 ≤ n % 2 + v_popN f (n / 2)
    by_cases hn : n % 2 = 0
    · have := v_popN_pos f (n / 2) (by rw [Nat.pow_succ] at h; omega) (by omega)
      omega
    · omega
theorem v_pop_e (x : Int32) : (v_pop x).toInt = ((v_popN 32 x.toBitVec.toNat : Nat) : Int) := by
  have := v_popN_f 32 x.toBitVec.toNat
  show (Int32.ofInt ((v_popN 32 x.toBitVec.toNat : Nat) : Int)).toInt = _
  exact q_ofr (by omega) (by omega)
theorem v_pop_ok {x : Int32} {p : Int × Int} (h1 : p.1 ≤ x.toInt ∧ x.toInt ≤ p.2) (b1 : 0 ≤ p.1) : (bif q_ile 1 p.1 then (1 : Int) else 0) ≤ (v_pop x).toInt ∧ (v_pop x).toInt ≤ (bif q_ieq p.2 0 then 0 else ((Nat.log2 p.2.toNat + 1 : Nat) : Int)) := by
  obtain ⟨e1, l1⟩ := v_nn (x := x) (by omega)
  rw [v_pop_e]
  constructor
  · cases h : q_ile 1 p.1 with
    | false => show (0 : Int) ≤ _; omega
    | true =>
      rw [q_ile_ok] at h
      have := v_popN_pos 32 x.toBitVec.toNat x.toBitVec.isLt (by omega)
      show (1 : Int) ≤ _
      omega
  · cases h : q_ieq p.2 0 with
    | true =>
      rw [q_ieq_ok] at h
      have := v_popN_le 32 0 x.toBitVec.toNat (by simp; omega)
      show _ ≤ (0 : Int)
      omega
    | false =>
      have h4 := Nat.lt_log2_self (n := p.2.toNat)
      have := v_popN_le 32 (Nat.log2 p.2.toNat + 1) x.toBitVec.toNat (by omega)
      show _ ≤ ((Nat.log2 p.2.toNat + 1 : Nat) : Int)
      omega
theorem v_ivop_ok (op : Nat) {x y : Int32} {p q : Int × Int} (h1 : p.1 ≤ x.toInt ∧ x.toInt ≤ p.2) (h2 : q.1 ≤ y.toInt ∧ y.toInt ≤ q.2) : (v_ivop op p q).1 ≤ (q_F op x y).toInt ∧ (q_F op x y).toInt ≤ (v_ivop op p q).2 := by
  have hall : ∀ w : Int32, (-2147483648 : Int) ≤ w.toInt ∧ w.toInt ≤ 2147483647 := q_rng
  unfold v_ivop
  split
  · show _ ≤ (x + y).toInt ∧ (x + y).toInt ≤ _
    cases hb : (q_ile (-2147483648) (p.1 + q.1) && q_ile (p.2 + q.2) 2147483647) with
    | false => exact hall _
    | true =>
      rw [Bool.and_eq_true, q_ile_ok, q_ile_ok] at hb
      have e : (x + y).toInt = x.toInt + y.toInt := by
        rw [← q_of x, ← q_of y, ← Int32.ofInt_add, q_of, q_of]
        exact q_ofr (by omega) (by omega)
      rw [e]
      dsimp only [cond_true]
      constructor <;> omega
  · show _ ≤ (x - y).toInt ∧ (x - y).toInt ≤ _
    cases hb : (q_ile (-2147483648) (p.1 - q.2) && q_ile (p.2 - q.1) 2147483647) with
    | false => exact hall _
    | true =>
      rw [Bool.and_eq_true, q_ile_ok, q_ile_ok] at hb
      have e : (x - y).toInt = x.toInt - y.toInt := by
        rw [← q_of x, ← q_of y, ← Int32.ofInt_sub, q_of, q_of]
        exact q_ofr (by omega) (by omega)
      rw [e]
      dsimp only [cond_true]
      constructor <;> omega
  · show _ ≤ (x * y).toInt ∧ (x * y).toInt ≤ _
    cases hb : (q_ile 0 p.1 && (q_ile 0 q.1 && q_ile (p.2 * q.2) 2147483647)) with
    | false => exact hall _
    | true =>
      rw [Bool.and_eq_true, Bool.and_eq_true, q_ile_ok, q_ile_ok, q_ile_ok] at hb
      obtain ⟨b1, b2, b3⟩ := hb
      have m0 : 0 ≤ p.1 * q.1 := Int.mul_nonneg b1 b2
      have m1 : p.1 * q.1 ≤ x.toInt * y.toInt := Int.mul_le_mul h1.1 h2.1 b2 (by omega)
      have m2 : x.toInt * y.toInt ≤ p.2 * q.2 := Int.mul_le_mul h1.2 h2.2 (by omega) (by omega)
      have e : (x * y).toInt = x.toInt * y.toInt := by
        rw [← q_of x, ← q_of y, ← Int32.ofInt_mul, q_of, q_of]
        exact q_ofr (by omega) (by omega)
      rw [e]
      exact ⟨m1, m2⟩
  · show _ ≤ (x &&& y).toInt ∧ (x &&& y).toInt ≤ _
    cases hb : q_ile 0 q.1 with
    | true =>
      rw [q_ile_ok] at hb
      have g1 := q_and_iv (x := x) (y := y) (by omega)
      cases hc : q_ile 0 p.1 with
      | true =>
        rw [q_ile_ok] at hc
        have g2 := q_and_iv (x := y) (y := x) (by omega)
        rw [q_and_comm] at g2
        exact ⟨g1.1, v_le_mn (by omega) (by omega)⟩
      | false =>
        dsimp only [cond_true, cond_false]
        constructor <;> omega
    | false =>
      cases hc : q_ile 0 p.1 with
      | true =>
        rw [q_ile_ok] at hc
        have := q_and_iv (x := y) (y := x) (by omega)
        rw [q_and_comm]
        dsimp only [cond_true, cond_false]
        constructor <;> omega
      | false => exact hall _
  · show _ ≤ (x ||| y).toInt ∧ (x ||| y).toInt ≤ _
    cases hb : (q_ile 0 p.1 && q_ile 0 q.1) with
    | false => exact hall _
    | true =>
      rw [Bool.and_eq_true, q_ile_ok, q_ile_ok] at hb
      exact v_or_ok h1 h2 hb.1 hb.2
  · show _ ≤ (x ^^^ y).toInt ∧ (x ^^^ y).toInt ≤ _
    cases hb : (q_ile 0 p.1 && q_ile 0 q.1) with
    | false => exact hall _
    | true =>
      rw [Bool.and_eq_true, q_ile_ok, q_ile_ok] at hb
      exact v_xor_ok h1 h2 hb.1 hb.2
  · show _ ≤ (x <<< (y &&& 31)).toInt ∧ (x <<< (y &&& 31)).toInt ≤ _
    cases hb : ((q_ieq p.1 1 && q_ieq p.2 1) && (q_ile 0 q.1 && q_ile q.2 30)) with
    | false => exact hall _
    | true =>
      rw [Bool.and_eq_true, Bool.and_eq_true, Bool.and_eq_true, q_ieq_ok, q_ieq_ok, q_ile_ok, q_ile_ok] at hb
      exact v_shl_ok (by omega) h2 hb.2.1 hb.2.2
  · show _ ≤ (x >>> (y &&& 31)).toInt ∧ (x >>> (y &&& 31)).toInt ≤ _
    cases hb : q_ile 0 p.1 with
    | false => exact hall _
    | true =>
      rw [q_ile_ok] at hb
      have := v_shr_ok (x := x) (y &&& 31) (by omega)
      exact ⟨this.1, Int.le_trans this.2 h1.2⟩
  · show _ ≤ (x / y).toInt ∧ (x / y).toInt ≤ _
    cases hb : (q_ile 0 p.1 && q_ile 1 q.1) with
    | false => exact hall _
    | true =>
      rw [Bool.and_eq_true, q_ile_ok, q_ile_ok] at hb
      obtain ⟨e1, n1, n2⟩ := v_div_e (x := x) (y := y) (by omega) (by omega)
      rw [e1]
      exact ⟨n1, Int.le_trans n2 h1.2⟩
  · show _ ≤ (x - x / y * y).toInt ∧ (x - x / y * y).toInt ≤ _
    cases hb : (q_ile 0 p.1 && q_ile 1 q.1) with
    | false => exact hall _
    | true =>
      rw [Bool.and_eq_true, q_ile_ok, q_ile_ok] at hb
      exact v_rem_ok h1 h2 hb.1 hb.2
  · show _ ≤ (if x < y then y else x).toInt ∧ (if x < y then y else x).toInt ≤ _
    have m1 := v_mx_l p.2 q.2
    have m2 := v_mx_r p.2 q.2
    split
    · rename_i hl
      rw [Int32.lt_iff_toInt_lt] at hl
      exact ⟨v_mx_le (by omega) (by omega), by dsimp only; omega⟩
    · rename_i hl
      rw [Int32.lt_iff_toInt_lt] at hl
      exact ⟨v_mx_le (by omega) (by omega), by dsimp only; omega⟩
  · show _ ≤ (if y < x then y else x).toInt ∧ (if y < x then y else x).toInt ≤ _
    have m1 := v_mn_l p.1 q.1
    have m2 := v_mn_r p.1 q.1
    split
    · rename_i hl
      rw [Int32.lt_iff_toInt_lt] at hl
      exact ⟨by dsimp only; omega, v_le_mn (by omega) (by omega)⟩
    · rename_i hl
      rw [Int32.lt_iff_toInt_lt] at hl
      exact ⟨by dsimp only; omega, v_le_mn (by omega) (by omega)⟩
  · show _ ≤ (v_pop x).toInt ∧ (v_pop x).toInt ≤ _
    cases hb : q_ile 0 p.1 with
    | false =>
      have := v_popN_f 32 x.toBitVec.toNat
      rw [v_pop_e]
      dsimp only [cond_false]
      constructor <;> omega
    | true =>
      rw [q_ile_ok] at hb
      exact v_pop_ok h1 hb
  · exact hall _
theorem v_bd1_ok {ρ : List Int} {env : q_S} (he : q_re ρ env) {s : Nat} {x lo hi : Int} (hs : ρ[s]? = some x) (h1 : lo ≤ x) (h2 : x ≤ hi) : q_re ρ (v_bd1 env s lo hi) := by
  unfold v_bd1
  simp only [q_nth_eq, q_put_eq]
  split
  · rename_i e hes
    refine ⟨by rw [List.length_set]; exact he.1, fun k e' hk => ?_⟩
    by_cases hks : k = s
    · subst hks
      rw [List.getElem?_set_self (List.getElem?_eq_some_iff.mp hes).1] at hk
      cases hk
      obtain ⟨y, h3, h4, h5, h6⟩ := he.2 k e hes
      have : x = y := Option.some.inj (hs.symm.trans h3)
      subst this
      exact ⟨x, hs, v_mx_le h4 h1, v_le_mn h5 h2, h6⟩
    · rw [List.getElem?_set_ne (Ne.symm hks)] at hk
      exact he.2 k e' hk
  · exact he
theorem v_andnot {u w : Int32} (h1 : 0 ≤ u.toInt) (h2 : 0 ≤ w.toInt) (h : u &&& (w ^^^ (-1)) = 0) : u.toInt ≤ w.toInt := by
  have hb : u.toBitVec &&& w.toBitVec = u.toBitVec := by
    have h3 : u.toBitVec &&& (w.toBitVec ^^^ BitVec.allOnes 32) = 0#32 := by
      have e : (-1 : Int32).toBitVec = BitVec.allOnes 32 := by decide
      have := congrArg Int32.toBitVec h
      rw [Int32.toBitVec_and, Int32.toBitVec_xor, e] at this
      exact this
    apply BitVec.eq_of_getLsbD_eq
    intro i hi
    have h4 := congrArg (fun b => b.getLsbD i) h3
    simp only [BitVec.getLsbD_and, BitVec.getLsbD_xor, BitVec.getLsbD_allOnes, BitVec.getLsbD_zero, hi, decide_true] at h4 ⊢
    cases hu : u.toBitVec.getLsbD i <;> cases hw : w.toBitVec.getLsbD i <;> simp [hu, hw] at h4 ⊢
  have e2 : (u.toBitVec &&& w.toBitVec).toNat ≤ w.toBitVec.toNat := by
    rw [BitVec.toNat_and]
    exact Nat.and_le_right
  rw [hb] at e2
  rw [(v_nn h1).1, (v_nn h2).1]
  exact Int.ofNat_le.mpr e2
theorem v_bd_ok {ρ : List Int} {env : q_S} (he : q_re ρ env) {s : Nat} {x lo hi : Int} (hs : ρ[s]? = some x) (h1 : lo ≤ x) (h2 : x ≤ hi) : q_re ρ (v_bd env s lo hi) := by
  unfold v_bd
  rw [q_nth_eq]
  split
  · rename_i e hes
    have he1 := v_bd1_ok he hs h1 h2
    obtain ⟨y, h3, h4, h5, h6⟩ := he.2 s e hes
    have : x = y := Option.some.inj (hs.symm.trans h3)
    subst this
    obtain ⟨lo0, hi0, op, a, b⟩ := e
    dsimp only at h6
    unfold v_bk
    dsimp only
    split
    · rename_i t c
      rcases h6 with h6 | ⟨u, v, c1, c2, c3⟩
      · cases h6
      · have c2 : v.toInt = c := c2
        have c1 : ρ[t]? = some u.toInt := c1
        have iv := q_iv_ok he1 (a := .inr t) (x := u.toInt) c1
        cases hb : (q_ile (-2147483648) ((q_iv (v_bd1 env s lo hi) (.inr t)).1 + c) && q_ile ((q_iv (v_bd1 env s lo hi) (.inr t)).2 + c) 2147483647) with
        | false => exact he1
        | true =>
          rw [Bool.and_eq_true, q_ile_ok, q_ile_ok] at hb
          have e9 : (u + v).toInt = u.toInt + v.toInt := by
            rw [← q_of u, ← q_of v, ← Int32.ofInt_add, q_of, q_of]
            exact q_ofr (by omega) (by omega)
          have c3 : x = (u + v).toInt := c3
          exact v_bd1_ok he1 c1 (by omega) (by omega)
    · rename_i s0 t
      rcases h6 with h6 | ⟨u, v, c1, c2, c3⟩
      · cases h6
      · have c3 : x = (u &&& v).toInt := c3
        have c1 : ρ[s0]? = some u.toInt := c1
        have iv := q_iv_ok he1 (a := .inr s0) (x := u.toInt) c1
        cases hb : ((q_ieq lo 0 && q_ieq hi 0) && q_ile 0 (q_iv (v_bd1 env s lo hi) (.inr s0)).1) with
        | false => exact he1
        | true =>
          dsimp only [cond_true]
          rw [Bool.and_eq_true, Bool.and_eq_true, q_ieq_ok, q_ieq_ok, q_ile_ok] at hb
          split
          · rename_i f hf
            rw [q_nth_eq] at hf
            obtain ⟨yv, k1, -, -, k4⟩ := he1.2 t f hf
            have k5 : yv = v.toInt := Option.some.inj (k1.symm.trans (show ρ[t]? = some v.toInt from c2))
            obtain ⟨flo, fhi, fop, fa, fb⟩ := f
            dsimp only at k4 ⊢
            split
            · rename_i c
              cases hb2 : (q_ieq c (-1) && q_ile 0 (q_iv (v_bd1 env s lo hi) fa).1) with
              | false => exact he1
              | true =>
                rw [Bool.and_eq_true, q_ieq_ok, q_ile_ok] at hb2
                rcases k4 with k4 | ⟨w, m, d1, d2, d3⟩
                · cases k4
                · have d2 : m.toInt = c := d2
                  have d3 : yv = (w ^^^ m).toInt := d3
                  have iw := q_iv_ok he1 d1
                  have em : m = -1 := q_inj (by rw [d2, hb2.1]; rfl)
                  have ev : v = w ^^^ (-1) := q_inj (by rw [← k5, d3, em])
                  have e0 : u &&& (w ^^^ (-1)) = 0 := q_inj (by rw [← ev, ← c3]; show x = 0; omega)
                  have := v_andnot (u := u) (w := w) (by omega) (by omega) e0
                  exact v_bd1_ok he1 c1 (by omega) (by omega)
            · exact he1
          · exact he1
    · exact he1
  · exact he
theorem v_bin3_ok {ρ : List Int} {env : q_S} (he : q_re ρ env) {op : Nat} (hop : op ≠ 0) {a b : q_N} {x y : Int32} (ha : q_r ρ a x.toInt) (hb : q_r ρ b y.toInt) {k : q_N → q_S → Bool} (h : v_bin3 op a b env k = true) : q_bok k ρ (q_F op x y).toInt := by
  unfold v_bin3 at h
  split at h
  · rename_i s hs
    obtain ⟨e, -, h2, h3, h4, h5⟩ := q_cse_ok op a b env 0 s hs
    obtain ⟨z, b1, -, -, b4⟩ := he.2 _ e h2
    rcases b4 with b4 | ⟨u, v, c1, c2, c3⟩
    · exact absurd (h3.symm.trans b4) hop
    · rw [h4] at c1
      rw [h5] at c2
      have e1 := q_inj (q_r_inj c1 ha)
      have e2 := q_inj (q_r_inj c2 hb)
      subst e1 e2
      rw [h3] at c3
      refine ⟨ρ, env, .inr s, q_px_rf ρ, he, ?_, h⟩
      show ρ[s]? = some _
      rw [← c3]
      exact b1
  · have hi := v_ivop_ok op (q_iv_ok he ha) (q_iv_ok he hb)
    obtain ⟨n1, n2, n3⟩ := q_new_ok he (e := ((v_ivop op (q_iv env a) (q_iv env b)).1, (v_ivop op (q_iv env a) (q_iv env b)).2, op, a, b)) hi.1 hi.2 (Or.inr ⟨x, y, ha, hb, rfl⟩)
    exact ⟨_, _, _, n1, n2, n3, h⟩
theorem v_bin_ok {ρ : List Int} {env : q_S} (he : q_re ρ env) {op : Nat} (hop : op ≠ 0) {a b : q_N} {x y : Int32} (ha : q_r ρ a x.toInt) (hb : q_r ρ b y.toInt) {k : q_N → q_S → Bool} (h : v_bin op a b env k = true) : q_bok k ρ (q_F op x y).toInt := by
  have hz : ∀ w : Int32, w.toInt = 0 → w = 0 := fun w hw => q_inj (by rw [hw]; rfl)
  have hm : ∀ w : Int32, w.toInt = -1 → w = -1 := fun w hw => q_inj (by rw [hw]; rfl)
  unfold v_bin at h
  split at h
  · rename_i c hc
    have e1 := q_c_ok he ha hc
    split at h
    · rename_i d hd
      have e2 := q_c_ok he hb hd
      refine ⟨ρ, env, _, q_px_rf ρ, he, ?_, h⟩
      rw [← e1, ← e2]
      exact (q_fold_ok op x y).symm
    · cases h1 : (Nat.beq op 4 && q_ieq c 0) with
      | true =>
        rw [h1] at h
        rw [Bool.and_eq_true, q_ieq_ok] at h1
        have e4 := Nat.eq_of_beq_eq_true h1.1
        subst e4
        refine ⟨ρ, env, _, q_px_rf ρ, he, ?_, h⟩
        rw [hz x (e1.trans h1.2)]
        show ((0 : Int32) &&& y).toInt = 0
        rw [Int32.zero_and]
        rfl
      | false =>
        rw [h1] at h
        cases h2 : (Nat.beq op 4 && q_ieq c (-1)) with
        | true =>
          rw [h2] at h
          rw [Bool.and_eq_true, q_ieq_ok] at h2
          have e4 := Nat.eq_of_beq_eq_true h2.1
          subst e4
          refine ⟨ρ, env, _, q_px_rf ρ, he, ?_, h⟩
          rw [hm x (e1.trans h2.2)]
          show q_r ρ b ((-1 : Int32) &&& y).toInt
          rw [q_m1_and]
          exact hb
        | false =>
          rw [h2] at h
          exact v_bin3_ok he hop ha hb h
  · split at h
    · rename_i d hd
      have e2 := q_c_ok he hb hd
      cases h1 : (Nat.beq op 4 && q_ieq d 0) with
      | true =>
        rw [h1] at h
        rw [Bool.and_eq_true, q_ieq_ok] at h1
        have e4 := Nat.eq_of_beq_eq_true h1.1
        subst e4
        refine ⟨ρ, env, _, q_px_rf ρ, he, ?_, h⟩
        rw [hz y (e2.trans h1.2)]
        show (x &&& (0 : Int32)).toInt = 0
        rw [Int32.and_zero]
        rfl
      | false =>
        rw [h1] at h
        cases h2 : (Nat.beq op 4 && q_ieq d (-1)) with
        | true =>
          rw [h2] at h
          rw [Bool.and_eq_true, q_ieq_ok] at h2
          have e4 := Nat.eq_of_beq_eq_true h2.1
          subst e4
          refine ⟨ρ, env, _, q_px_rf ρ, he, ?_, h⟩
          rw [hm y (e2.trans h2.2)]
          show q_r ρ a (x &&& (-1 : Int32)).toInt
          rw [q_and_comm, q_m1_and]
          exact ha
        | false =>
          rw [h2] at h
          exact v_bin3_ok he hop ha hb h
    · exact v_bin3_ok he hop ha hb h
theorem v_en_ok {ρ : List Int} {env : q_S} (he : q_re ρ env) {s : Nat} {x hi : Int} (hs : ρ[s]? = some x) (h2 : x ≤ hi) {k : Int → q_S → Bool} : ∀ (fuel : Nat) (lo : Int), lo ≤ x → v_en s hi env k fuel lo = true → ∃ env', q_re ρ env' ∧ k x env' = true
  | 0, lo, _, h => by cases h
  | n + 1, lo, hl, h => by
    have h : (k lo (v_bd env s lo lo) && (bif q_ile hi lo then true else v_en s hi env k n (lo + 1))) = true := h
    rw [Bool.and_eq_true] at h
    by_cases e : lo = x
    · subst e
      exact ⟨_, v_bd_ok he hs (Int.le_refl _) (Int.le_refl _), h.1⟩
    · cases hb : q_ile hi lo with
      | true => rw [q_ile_ok] at hb; omega
      | false =>
        rw [hb] at h
        exact v_en_ok he hs h2 n (lo + 1) (by omega) h.2
theorem v_need_ok {ρ : List Int} {env : q_S} (he : q_re ρ env) {a : q_N} {x : Int} (ha : q_r ρ a x) {k : Int → q_S → Bool} (h : v_need a env k = true) : ∃ env', q_re ρ env' ∧ k x env' = true := by
  cases a with
  | inl c => have ha : x = c := ha; subst ha; exact ⟨env, he, h⟩
  | inr s =>
    have hi := q_iv_ok he ha
    exact v_en_ok he ha hi.2 64 _ hi.1 h
theorem v_eq3_ok {ρ : List Int} {env : q_S} (he : q_re ρ env) {s : Nat} {x lo hi c : Int} (hs : ρ[s]? = some x) (h1 : lo ≤ x) (h2 : x ≤ hi) {kt kf : q_S → Bool} (h : v_eq3 s lo hi c env kt kf = true) : (x = c ∧ ∃ env', q_re ρ env' ∧ kt env' = true) ∨ (¬ x = c ∧ ∃ env', q_re ρ env' ∧ kf env' = true) := by
  unfold v_eq3 at h
  rw [Bool.and_eq_true, Bool.and_eq_true] at h
  obtain ⟨a1, a2, a3⟩ := h
  by_cases e : x = c
  · subst e
    exact Or.inl ⟨rfl, _, v_bd_ok he hs (Int.le_refl _) (Int.le_refl _), a1⟩
  · refine Or.inr ⟨e, ?_⟩
    by_cases hl : x < c
    · have : q_ilt lo c = true := (q_ilt_ok _ _).mpr (by omega)
      rw [this] at a2
      exact ⟨_, v_bd_ok he hs h1 (by omega), a2⟩
    · have : q_ilt c hi = true := (q_ilt_ok _ _).mpr (by omega)
      rw [this] at a3
      exact ⟨_, v_bd_ok he hs (by omega) h2, a3⟩
theorem v_eq_ok {ρ : List Int} {env : q_S} (he : q_re ρ env) {a b : q_N} {x y : Int} (ha : q_r ρ a x) (hb : q_r ρ b y) {kt kf : q_S → Bool} (h : v_eq a b env kt kf = true) : (x = y ∧ ∃ env', q_re ρ env' ∧ kt env' = true) ∨ (¬ x = y ∧ ∃ env', q_re ρ env' ∧ kf env' = true) := by
  have i1 := q_iv_ok he ha
  have i2 := q_iv_ok he hb
  unfold v_eq at h
  cases h0 : q_nb a b with
  | true =>
    rw [h0] at h
    have := q_nb_ok h0
    subst this
    exact Or.inl ⟨q_r_inj ha hb, env, he, h⟩
  | false =>
    rw [h0] at h
    cases h1 : q_ilt (q_iv env a).2 (q_iv env b).1 with
    | true =>
      rw [h1] at h
      rw [q_ilt_ok] at h1
      exact Or.inr ⟨by omega, env, he, h⟩
    | false =>
      rw [h1] at h
      cases h2 : q_ilt (q_iv env b).2 (q_iv env a).1 with
      | true =>
        rw [h2] at h
        rw [q_ilt_ok] at h2
        exact Or.inr ⟨by omega, env, he, h⟩
      | false =>
        rw [h2] at h
        dsimp only [cond_false] at h
        split at h
        · rename_i u v hu hv
          have e1 := q_c_ok he ha hu
          have e2 := q_c_ok he hb hv
          cases h3 : q_ieq u v with
          | true =>
            rw [h3] at h
            rw [q_ieq_ok] at h3
            exact Or.inl ⟨by omega, env, he, h⟩
          | false =>
            rw [h3] at h
            have := q_ieq_f h3
            exact Or.inr ⟨by omega, env, he, h⟩
        · rename_i v hu hv
          have e2 := q_c_ok he hb hv
          subst e2
          split at h
          · exact v_eq3_ok he ha i1.1 i1.2 h
          · cases h
        · rename_i u hu hv
          have e1 := q_c_ok he ha hu
          subst e1
          split at h
          · rcases v_eq3_ok he hb i2.1 i2.2 h with ⟨g1, g2⟩ | ⟨g1, g2⟩
            · exact Or.inl ⟨g1.symm, g2⟩
            · exact Or.inr ⟨fun e => g1 e.symm, g2⟩
          · cases h
        · split at h
          · rw [Bool.and_eq_true] at h
            by_cases hc : x = y
            · exact Or.inl ⟨hc, _, v_bd_ok (v_bd_ok he ha (by omega) (by omega)) hb (by omega) (by omega), h.1⟩
            · exact Or.inr ⟨hc, env, he, h.2⟩
          · cases h
theorem v_ltz_ok {ρ : List Int} {env : q_S} (he : q_re ρ env) {s t : Nat} {z : q_N} {x y : Int} (ha : ρ[s]? = some x) (hb : ρ[t]? = some y) (hz : q_r ρ z (x - y)) {kt kf : q_S → Bool} (h : v_ltz s t z env kt kf = true) : (x < y ∧ ∃ env', q_re ρ env' ∧ kt env' = true) ∨ (y ≤ x ∧ ∃ env', q_re ρ env' ∧ kf env' = true) := by
  have i1 := q_iv_ok he (a := .inr s) ha
  have i2 := q_iv_ok he (a := .inr t) hb
  have i3 := q_iv_ok he hz
  unfold v_ltz at h
  cases h1 : q_ile (q_iv env z).2 (-1) with
  | true =>
    rw [h1] at h
    rw [q_ile_ok] at h1
    exact Or.inl ⟨by omega, env, he, h⟩
  | false =>
    rw [h1] at h
    cases h2 : q_ile 0 (q_iv env z).1 with
    | true =>
      rw [h2] at h
      rw [q_ile_ok] at h2
      exact Or.inr ⟨by omega, env, he, h⟩
    | false =>
      rw [h2] at h
      dsimp only [cond_false] at h
      split at h
      · rename_i k
        have hz : ρ[k]? = some (x - y) := hz
        rw [Bool.and_eq_true] at h
        by_cases hc : x < y
        · exact Or.inl ⟨hc, _, v_bd_ok (v_bd_ok (v_bd_ok he hz i3.1 (by omega)) ha (by omega) (by omega)) hb (by omega) (by omega), h.1⟩
        · exact Or.inr ⟨by omega, _, v_bd_ok (v_bd_ok (v_bd_ok he hz (by omega) i3.2) ha (by omega) (by omega)) hb (by omega) (by omega), h.2⟩
      · rw [Bool.and_eq_true] at h
        by_cases hc : x < y
        · exact Or.inl ⟨hc, _, he, h.1⟩
        · exact Or.inr ⟨by omega, _, he, h.2⟩
theorem v_lt_ok {ρ : List Int} {env : q_S} (he : q_re ρ env) {a b : q_N} {x y : Int} (ha : q_r ρ a x) (hb : q_r ρ b y) {kt kf : q_S → Bool} (h : v_lt a b env kt kf = true) : (x < y ∧ ∃ ρ' env', q_px ρ ρ' ∧ q_re ρ' env' ∧ kt env' = true) ∨ (y ≤ x ∧ ∃ ρ' env', q_px ρ ρ' ∧ q_re ρ' env' ∧ kf env' = true) := by
  have i1 := q_iv_ok he ha
  have i2 := q_iv_ok he hb
  unfold v_lt at h
  cases h1 : q_ilt (q_iv env a).2 (q_iv env b).1 with
  | true =>
    rw [h1] at h
    rw [q_ilt_ok] at h1
    exact Or.inl ⟨by omega, ρ, env, q_px_rf ρ, he, h⟩
  | false =>
    rw [h1] at h
    cases h2 : q_ile (q_iv env b).2 (q_iv env a).1 with
    | true =>
      rw [h2] at h
      rw [q_ile_ok] at h2
      exact Or.inr ⟨by omega, ρ, env, q_px_rf ρ, he, h⟩
    | false =>
      rw [h2] at h
      dsimp only [cond_false] at h
      split at h
      · rename_i s d
        rw [Bool.and_eq_true] at h
        have hb : y = d := hb
        subst hb
        by_cases hc : x < y
        · exact Or.inl ⟨hc, ρ, _, q_px_rf ρ, v_bd_ok he ha i1.1 (by omega), h.1⟩
        · exact Or.inr ⟨by omega, ρ, _, q_px_rf ρ, v_bd_ok he ha (by omega) i1.2, h.2⟩
      · rename_i d s
        rw [Bool.and_eq_true] at h
        have ha : x = d := ha
        subst ha
        by_cases hc : x < y
        · exact Or.inl ⟨hc, ρ, _, q_px_rf ρ, v_bd_ok he hb (by omega) i2.2, h.1⟩
        · exact Or.inr ⟨by omega, ρ, _, q_px_rf ρ, v_bd_ok he hb i2.1 (by omega), h.2⟩
      · rename_i s t
        have plain : (kt (v_bd (v_bd env s (q_iv env (.inr s)).1 ((q_iv env (.inr t)).2 - 1)) t ((q_iv env (.inr s)).1 + 1) (q_iv env (.inr t)).2) && kf (v_bd (v_bd env s (q_iv env (.inr t)).1 (q_iv env (.inr s)).2) t (q_iv env (.inr t)).1 (q_iv env (.inr s)).2)) = true → (x < y ∧ ∃ ρ' env', q_px ρ ρ' ∧ q_re ρ' env' ∧ kt env' = true) ∨ (y ≤ x ∧ ∃ ρ' env', q_px ρ ρ' ∧ q_re ρ' env' ∧ kf env' = true) := by
          intro h
          rw [Bool.and_eq_true] at h
          by_cases hc : x < y
          · exact Or.inl ⟨hc, ρ, _, q_px_rf ρ, v_bd_ok (v_bd_ok he ha (by omega) (by omega)) hb (by omega) (by omega), h.1⟩
          · exact Or.inr ⟨by omega, ρ, _, q_px_rf ρ, v_bd_ok (v_bd_ok he ha (by omega) (by omega)) hb (by omega) (by omega), h.2⟩
        cases hcd : ((q_ile (-2147483648) ((q_iv env (.inr s)).1 - (q_iv env (.inr t)).2) && q_ile ((q_iv env (.inr s)).2 - (q_iv env (.inr t)).1) 2147483647) && ((q_ile (-2147483648) (q_iv env (.inr s)).1 && q_ile (q_iv env (.inr s)).2 2147483647) && (q_ile (-2147483648) (q_iv env (.inr t)).1 && q_ile (q_iv env (.inr t)).2 2147483647))) with
        | false => rw [hcd] at h; exact plain h
        | true =>
          rw [hcd] at h
          dsimp only [cond_true] at h
          simp only [Bool.and_eq_true, q_ile_ok] at hcd
          obtain ⟨⟨c1, c2⟩, ⟨c3, c4⟩, c5, c6⟩ := hcd
          have ex : (Int32.ofInt x).toInt = x := q_ofr (by omega) (by omega)
          have ey : (Int32.ofInt y).toInt = y := q_ofr (by omega) (by omega)
          obtain ⟨ρ1, e1, z, p1, p2, p3, p4⟩ := v_bin3_ok he (op := 2) (by decide) (x := Int32.ofInt x) (y := Int32.ofInt y) (by rw [ex]; exact ha) (by rw [ey]; exact hb) h
          have ez : (q_F 2 (Int32.ofInt x) (Int32.ofInt y)).toInt = x - y := by
            show (Int32.ofInt x - Int32.ofInt y).toInt = _
            rw [← Int32.ofInt_sub]
            exact q_ofr (by omega) (by omega)
          rw [ez] at p3
          rcases v_ltz_ok p2 (q_r_px p1 ha) (q_r_px p1 hb) p3 p4 with ⟨g1, g2, g3, g4⟩ | ⟨g1, g2, g3, g4⟩
          · exact Or.inl ⟨g1, ρ1, g2, p1, g3, g4⟩
          · exact Or.inr ⟨g1, ρ1, g2, p1, g3, g4⟩
      · rw [Bool.and_eq_true] at h
        by_cases hc : x < y
        · exact Or.inl ⟨hc, ρ, env, q_px_rf ρ, he, h.1⟩
        · exact Or.inr ⟨by omega, ρ, env, q_px_rf ρ, he, h.2⟩
