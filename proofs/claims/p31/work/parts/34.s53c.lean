/-! the ring (pure) -/
noncomputable def z_rs (P : Nat → Prop) (f : Nat → Int32) : Nat → Nat → Int32 → Int32
  | 0, _, x => x
  | r + 1, k, x => z_rs P f r (k + 1) (@ite _ (P k) (Classical.propDecidable _) (x + f k) x)
theorem z_rs_c {P P' : Nat → Prop} {f f' : Nat → Int32} : ∀ (r k : Nat) (x : Int32), (∀ j, k ≤ j → j < k + r → (P j ↔ P' j)) → (∀ j, k ≤ j → j < k + r → P j → f j = f' j) → z_rs P f r k x = z_rs P' f' r k x := by
  intro r
  induction r with
  | zero =>
    intro k x _ _
    rw [z_rs, z_rs]
  | succ r ih =>
    intro k x h1 h2
    rw [z_rs, z_rs]
    have e : @ite _ (P k) (Classical.propDecidable _) (x + f k) x = @ite _ (P' k) (Classical.propDecidable _) (x + f' k) x := by
      by_cases q : P k
      · rw [if_pos q, if_pos ((h1 k (Nat.le_refl k) (by omega)).mp q), h2 k (Nat.le_refl k) (by omega) q]
      · rw [if_neg q, if_neg (fun m => q ((h1 k (Nat.le_refl k) (by omega)).mpr m))]
    rw [e]
    exact ih (k + 1) _ (fun j a b => h1 j (by omega) (by omega)) (fun j a b => h2 j (by omega) (by omega))
theorem z_rs_z {P : Nat → Prop} {f : Nat → Int32} : ∀ (r k : Nat) (x : Int32), (∀ j, k ≤ j → j < k + r → P j → f j = Int32.ofInt 0) → z_rs P f r k x = x := by
  intro r
  induction r with
  | zero =>
    intro k x _
    rw [z_rs]
  | succ r ih =>
    intro k x h
    rw [z_rs]
    have e : @ite _ (P k) (Classical.propDecidable _) (x + f k) x = x := by
      by_cases q : P k
      · rw [if_pos q, h k (Nat.le_refl k) (by omega) q]
        exact z_addz x
      · rw [if_neg q]
    rw [e]
    exact ih (k + 1) x (fun j a b => h j (by omega) (by omega))
theorem z_rs_b {P : Nat → Prop} {f : Nat → Int32} {B : Int} (hB : 0 ≤ B) : ∀ (r k : Nat) (x : Int32), (∀ j, k ≤ j → j < k + r → P j → 0 ≤ (f j).toInt ∧ (f j).toInt ≤ B) → 0 ≤ x.toInt → x.toInt + (r : Int) * B ≤ 2147483647 → 0 ≤ (z_rs P f r k x).toInt ∧ (z_rs P f r k x).toInt ≤ x.toInt + (r : Int) * B := by
  intro r
  induction r with
  | zero =>
    intro k x _ h0 _
    rw [z_rs]
    exact ⟨h0, by omega⟩
  | succ r ih =>
    intro k x h h0 hx
    have er : ((r + 1 : Nat) : Int) * B = (r : Int) * B + B := by
      rw [show ((r + 1 : Nat) : Int) = (r : Int) + 1 by omega, Int.add_mul, Int.one_mul]
    have p : 0 ≤ (r : Int) * B := Int.mul_nonneg (by omega) hB
    rw [er] at hx ⊢
    rw [z_rs]
    by_cases q : P k
    · rw [if_pos q]
      obtain ⟨f1, f2⟩ := h k (Nat.le_refl k) (by omega) q
      have e := z_addI (a := x) (b := f k) (by omega)
      obtain ⟨i1, i2⟩ := ih (k + 1) (x + f k) (fun j a b => h j (by omega) (by omega)) (by omega) (by omega)
      exact ⟨i1, by omega⟩
    · rw [if_neg q]
      obtain ⟨i1, i2⟩ := ih (k + 1) x (fun j a b => h j (by omega) (by omega)) h0 (by omega)
      exact ⟨i1, by omega⟩
/-- in how many ways the ring ends: r are still to come -/
noncomputable def z_wy (n : Nat) (od : Nat → Nat → Prop) : Nat → Nat → Nat → Int32
  | 0, _, l => @ite _ (od l 0) (Classical.propDecidable _) (Int32.ofInt 0) (Int32.ofInt 1)
  | r + 1, s, l => z_rs (fun k => (¬ s.testBit k = true) ∧ ¬ od l k) (fun k => z_wy n od r (s ||| 2 ^ k) k) (n - 1) 1 (Int32.ofInt 0)
noncomputable def z_Wr (n : Nat) (od : Nat → Nat → Prop) (s l : Nat) : Int32 := z_wy n od (n - z_cn s n) s l
theorem z_cn_or {s j n : Nat} (hs : ¬ s.testBit j = true) (hj : j < n) : z_cn (s ||| 2 ^ j) n = z_cn s n + 1 := by
  have x1 : (s ||| 2 ^ j).testBit j = true := by
    rw [Nat.testBit_or, Nat.testBit_two_pow]
    simp
  have e : z_nt (s ||| 2 ^ j) (2 ^ j) = s := Nat.eq_of_testBit_eq (fun i => by
    have a := z_nt_t (s ||| 2 ^ j) (2 ^ j) i
    rw [Nat.testBit_or, Bool.or_eq_true, Nat.testBit_two_pow, decide_eq_true_iff] at a
    cases q : s.testBit i with
    | true => exact a.mpr ⟨Or.inl q, fun z => by rw [z] at hs; exact hs q⟩
    | false =>
      have : ¬ (z_nt (s ||| 2 ^ j) (2 ^ j)).testBit i = true := fun m => by
        obtain ⟨m1, m2⟩ := a.mp m
        rcases m1 with m1 | m1
        · rw [q] at m1
          exact Bool.noConfusion m1
        · exact m2 m1
      simpa using this)
  have := z_cn_nt x1 n hj
  rw [e] at this
  omega
section RP
variable {n : Nat} {od : Nat → Nat → Prop}
theorem z_wy_b (hn : n ≤ 8) : ∀ (r s l : Nat), r ≤ 8 → 0 ≤ (z_wy n od r s l).toInt ∧ (z_wy n od r s l).toInt ≤ ((8 ^ r : Nat) : Int) := by
  intro r
  induction r with
  | zero =>
    intro s l _
    have z0 : (Int32.ofInt 0).toInt = 0 := rfl
    have z1 : (Int32.ofInt 1).toInt = 1 := rfl
    rw [z_wy]
    by_cases q : od l 0
    · rw [if_pos q, z0]
      exact ⟨Int.le_refl 0, by decide⟩
    · rw [if_neg q, z1]
      exact ⟨by decide, by decide⟩
  | succ r ih =>
    intro s l hr
    obtain ⟨b, hb⟩ : ∃ b, b = 8 ^ r := ⟨_, rfl⟩
    have b1 : b ≤ 2097152 := by
      rw [hb]
      exact Nat.pow_le_pow_right (n := 8) (by decide) (show r ≤ 7 by omega)
    have ih' : ∀ s l, 0 ≤ (z_wy n od r s l).toInt ∧ (z_wy n od r s l).toInt ≤ (b : Int) := fun s l => by
      have := ih s l (by omega)
      rw [← hb] at this
      exact this
    have m : ((n - 1 : Nat) : Int) * (b : Int) ≤ 7 * (b : Int) := Int.mul_le_mul_of_nonneg_right (by omega) (by omega)
    have z0 : (Int32.ofInt 0).toInt = 0 := rfl
    rw [z_wy, show 8 ^ (r + 1) = b * 8 by rw [Nat.pow_succ, hb]]
    obtain ⟨i1, i2⟩ := z_rs_b (P := fun k => (¬ s.testBit k = true) ∧ ¬ od l k) (f := fun k => z_wy n od r (s ||| 2 ^ k) k) (B := (b : Int)) (by omega) (n - 1) 1 (Int32.ofInt 0) (fun j _ _ _ => ih' (s ||| 2 ^ j) j) (by decide) (by rw [z0]; omega)
    rw [z0] at i2
    exact ⟨i1, by omega⟩
theorem z_Wr_s {s l : Nat} (h : z_cn s n < n) : z_Wr n od s l = z_rs (fun k => (¬ s.testBit k = true) ∧ ¬ od l k) (fun k => z_Wr n od (s ||| 2 ^ k) k) (n - 1) 1 (Int32.ofInt 0) := by
  have e : z_Wr n od s l = z_wy n od ((n - (z_cn s n + 1)) + 1) s l := by
    unfold z_Wr
    rw [show n - z_cn s n = (n - (z_cn s n + 1)) + 1 by omega]
  rw [e, z_wy]
  refine z_rs_c _ _ _ (fun j _ _ => Iff.rfl) (fun j h1 h2 p => ?_)
  show z_wy n od (n - (z_cn s n + 1)) (s ||| 2 ^ j) j = z_wy n od (n - z_cn (s ||| 2 ^ j) n) (s ||| 2 ^ j) j
  rw [z_cn_or p.1 (by omega)]
theorem z_Wr_f {s l : Nat} (h : z_cn s n = n) : z_Wr n od s l = @ite _ (od l 0) (Classical.propDecidable _) (Int32.ofInt 0) (Int32.ofInt 1) := by
  unfold z_Wr
  rw [h, Nat.sub_self, z_wy]
theorem z_Wr_p (hn : n ≤ 8) (s l : Nat) : 0 ≤ (z_Wr n od s l).toInt := (z_wy_b hn _ _ _ (by omega)).1
noncomputable def z_fk (P : Nat → Prop) : Nat → Nat → Nat
  | 0, _ => 0
  | r + 1, k => @ite _ (P k) (Classical.propDecidable _) k (z_fk P r (k + 1))
theorem z_fk_ok {P : Nat → Prop} : ∀ (r k : Nat), (∃ j, k ≤ j ∧ j < k + r ∧ P j) → P (z_fk P r k) ∧ k ≤ z_fk P r k ∧ z_fk P r k < k + r ∧ ∀ j, k ≤ j → j < z_fk P r k → ¬ P j := by
  intro r
  induction r with
  | zero =>
    intro k h
    obtain ⟨j, a, b, _⟩ := h
    omega
  | succ r ih =>
    intro k h
    by_cases q : P k
    · rw [z_fk, if_pos q]
      exact ⟨q, Nat.le_refl k, by omega, fun j a b => absurd b (by omega)⟩
    · rw [z_fk, if_neg q]
      obtain ⟨j, a, b, p⟩ := h
      have ne : j ≠ k := fun e => q (by rw [← e]; exact p)
      obtain ⟨i1, i2, i3, i4⟩ := ih (k + 1) ⟨j, by omega, by omega, p⟩
      refine ⟨i1, by omega, by omega, fun j a b => ?_⟩
      by_cases e : j = k
      · rw [e]
        exact q
      · exact i4 j (by omega) b
noncomputable def z_nP (n : Nat) (od : Nat → Nat → Prop) (s l k : Nat) : Prop := (¬ s.testBit k = true) ∧ (¬ od l k) ∧ ¬ z_Wr n od (s ||| 2 ^ k) k = 0
noncomputable def z_nx (n : Nat) (od : Nat → Nat → Prop) (s l : Nat) : Nat := z_fk (z_nP n od s l) (n - 1) 1
noncomputable def z_wlk (n : Nat) (od : Nat → Nat → Prop) : Nat → Nat × Nat
  | 0 => (1, 0)
  | i + 1 => ((z_wlk n od i).1 ||| 2 ^ z_nx n od (z_wlk n od i).1 (z_wlk n od i).2, z_nx n od (z_wlk n od i).1 (z_wlk n od i).2)
theorem z_nx_ok {s l : Nat} (hc : z_cn s n < n) (hW : ¬ z_Wr n od s l = 0) : z_nP n od s l (z_nx n od s l) ∧ 1 ≤ z_nx n od s l ∧ z_nx n od s l < n ∧ ∀ j, 1 ≤ j → j < z_nx n od s l → ¬ z_nP n od s l j := by
  have ex : ∃ j, 1 ≤ j ∧ j < 1 + (n - 1) ∧ z_nP n od s l j := Classical.byContradiction (fun m => hW (show z_Wr n od s l = Int32.ofInt 0 from (z_Wr_s hc).trans (z_rs_z _ _ _ (fun j h1 h2 p => Classical.byContradiction (fun z => m ⟨j, h1, h2, p.1, p.2, z⟩)))))
  obtain ⟨a, b, c, d⟩ := z_fk_ok (P := z_nP n od s l) (n - 1) 1 ex
  refine ⟨a, b, ?_, d⟩
  have : z_nx n od s l < 1 + (n - 1) := c
  omega
theorem z_cn_1 : ∀ m, z_cn 1 (m + 1) = 1 := by
  intro m
  induction m with
  | zero => exact (by decide)
  | succ m ih =>
    have e : z_cn 1 (m + 1 + 1) = z_cn 1 (m + 1) + (if (1 : Nat).testBit (m + 1) then 1 else 0) := rfl
    rw [if_neg (show ¬ (1 : Nat).testBit (m + 1) = true by rw [Nat.testBit_lt_two_pow (show 1 < 2 ^ (m + 1) from Nat.one_lt_two_pow (by omega))]; exact fun z => Bool.noConfusion z)] at e
    omega
theorem z_wlk_ok (h3 : 3 ≤ n) (h0 : ¬ z_Wr n od 1 0 = 0) : ∀ i, i < n → (z_wlk n od i).1 < 2 ^ n ∧ (z_wlk n od i).1.testBit 0 = true ∧ (z_wlk n od i).1.testBit (z_wlk n od i).2 = true ∧ (z_wlk n od i).2 < n ∧ z_cn (z_wlk n od i).1 n = i + 1 ∧ ¬ z_Wr n od (z_wlk n od i).1 (z_wlk n od i).2 = 0 := by
  intro i
  induction i with
  | zero =>
    intro _
    rw [show z_wlk n od 0 = (1, 0) from rfl]
    refine ⟨Nat.one_lt_two_pow (by omega), by decide, by decide, by show 0 < n; omega, ?_, h0⟩
    show z_cn 1 n = 0 + 1
    rw [show n = (n - 1) + 1 by omega]
    exact z_cn_1 _
  | succ i ih =>
    intro hi
    obtain ⟨i1, i2, i3, i4, i5, i6⟩ := ih (by omega)
    obtain ⟨p, k1, kn, -⟩ := z_nx_ok (by omega) i6
    have e : z_wlk n od (i + 1) = ((z_wlk n od i).1 ||| 2 ^ z_nx n od (z_wlk n od i).1 (z_wlk n od i).2, z_nx n od (z_wlk n od i).1 (z_wlk n od i).2) := rfl
    rw [e]
    generalize z_nx n od (z_wlk n od i).1 (z_wlk n od i).2 = k at *
    generalize (z_wlk n od i).1 = s at *
    refine ⟨Nat.or_lt_two_pow i1 (Nat.pow_lt_pow_right (by decide) kn), ?_, ?_, kn, ?_, p.2.2⟩
    · show (s ||| 2 ^ k).testBit 0 = true
      rw [Nat.testBit_or, i2, Bool.true_or]
    · show (s ||| 2 ^ k).testBit k = true
      rw [Nat.testBit_or, Nat.testBit_two_pow]
      simp
    · show z_cn (s ||| 2 ^ k) n = i + 1 + 1
      rw [z_cn_or p.1 kn, i5]
end RP
theorem z_cn_full_all : ∀ n : Fin 9, ∀ s : Fin 256, s.val < 2 ^ n.val → (z_cn s.val n.val = n.val ↔ s.val = 2 ^ n.val - 1) := by decide +kernel
theorem z_cn_full {n s : Nat} (hn : n ≤ 8) (hs : s < 2 ^ n) : z_cn s n = n ↔ s = 2 ^ n - 1 := by
  have h2 : 2 ^ n ≤ 2 ^ 8 := Nat.pow_le_pow_right (by decide) hn
  exact z_cn_full_all ⟨n, by omega⟩ ⟨s, by omega⟩ hs
theorem z_lt256 {n s : Nat} (hn : n ≤ 8) (hs : s < 2 ^ n) : s < 256 := by
  have h2 : 2 ^ n ≤ 2 ^ 8 := Nat.pow_le_pow_right (by decide) hn
  omega
theorem z_ieqR {a b : Nat} (ha : a < 2147483648) (hb : b < 2147483648) (h : z_i a = z_i b) : a = b := by
  have := congrArg (fun z => z.toInt.toNat) h
  simp only [z_iin ha, z_iin hb] at this
  exact this
theorem z_ix8 (a k : Nat) : z_i a * Int32.ofInt 8 + z_i k = z_i (a * 8 + k) := by
  rw [show Int32.ofInt 8 = z_i 8 from rfl, z_imul, z_iadd]
theorem z_ix8' (a k : Nat) : Int32.ofInt 8 * z_i a + z_i k = z_i (8 * a + k) := by
  rw [show Int32.ofInt 8 = z_i 8 from rfl, z_imul, z_iadd]
theorem z_shR {k : Nat} (h : k < 12) : Int32.ofInt 1 <<< (z_i k &&& 31) = z_i (2 ^ k) := z_sh_all ⟨k, h⟩
theorem z_sh8_all : ∀ n : Fin 9, (Int32.ofInt 1 <<< (z_i n.val &&& 31)) - Int32.ofInt 1 = z_i (2 ^ n.val - 1) := by decide +kernel
