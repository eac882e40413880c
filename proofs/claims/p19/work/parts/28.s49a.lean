/-! rows of places by choices: all of them in their order, and a search with a bound (as in 45a, 45b, for any number of choices) -/
noncomputable abbrev z_Gt : Type := Int × (Nat → Nat)
noncomputable def z_gs (n : Nat) (ok : (Nat → Nat) → Nat → Prop) (co : (Nat → Nat) → Nat → Int) (x : Nat → Nat) (B : z_Gt) : z_Gt := @ite _ (ok x n ∧ co x n < B.1) (Classical.propDecidable _) (co x n, x) B
noncomputable def z_gk (f : Nat → z_Gt → z_Gt) : Nat → Nat → z_Gt → z_Gt
  | 0, _, B => B
  | q + 1, k, B => z_gk f q (k + 1) (f k B)
noncomputable def z_gf (K n : Nat) (ok : (Nat → Nat) → Nat → Prop) (co : (Nat → Nat) → Nat → Int) : Nat → Nat → (Nat → Nat) → z_Gt → z_Gt
  | 0, _, x, B => z_gs n ok co x B
  | r + 1, i, x, B => z_gk (fun k B => z_gf K n ok co r (i + 1) (z_u5 x i k) B) K 0 B
theorem z_gk_id {f : Nat → z_Gt → z_Gt} : ∀ (q k : Nat) (B : z_Gt), (∀ j, k ≤ j → j < k + q → f j B = B) → z_gk f q k B = B := by
  intro q
  induction q with
  | zero => intro k B _; rfl
  | succ q ih =>
    intro k B h
    rw [z_gk, h k (Nat.le_refl k) (by omega)]
    exact ih (k + 1) B (fun j h1 h2 => h j (by omega) (by omega))
/-- what a row's beginning says: hangs on the beginning alone, and the longer the stricter and the dearer -/
noncomputable def z_gp (n : Nat) (ok : (Nat → Nat) → Nat → Prop) (co : (Nat → Nat) → Nat → Int) : Prop := (∀ (x y : Nat → Nat) (i : Nat), i ≤ n → (∀ j, j < i → x j = y j) → ok x i → ok y i) ∧ (∀ (x y : Nat → Nat) (i : Nat), i ≤ n → (∀ j, j < i → x j = y j) → co x i = co y i) ∧ (∀ (x : Nat → Nat) (i : Nat), i < n → ok x (i + 1) → ok x i) ∧ ∀ (x : Nat → Nat) (i : Nat), i < n → co x i ≤ co x (i + 1)
section GP
variable {K n : Nat} {ok : (Nat → Nat) → Nat → Prop} {co : (Nat → Nat) → Nat → Int}
theorem z_gf_inv (hp : z_gp n ok co) : ∀ (r i : Nat) (x : Nat → Nat) (B : z_Gt), i + r = n → ¬ ok x i → z_gf K n ok co r i x B = B := by
  intro r
  induction r with
  | zero =>
    intro i x B h v
    obtain rfl : i = n := by omega
    rw [z_gf, z_gs, if_neg (fun q => v q.1)]
  | succ r ih =>
    intro i x B h v
    rw [z_gf]
    exact z_gk_id K 0 B (fun k _ _ => ih (i + 1) _ B (by omega) (fun w => v (hp.1 _ _ i (by omega) (fun j hj => z_u5n (by omega)) (hp.2.2.1 _ i (by omega) w))))
theorem z_gf_bnd (hp : z_gp n ok co) : ∀ (r i : Nat) (x : Nat → Nat) (B : z_Gt), i + r = n → B.1 ≤ co x i → z_gf K n ok co r i x B = B := by
  intro r
  induction r with
  | zero =>
    intro i x B h v
    obtain rfl : i = n := by omega
    rw [z_gf, z_gs, if_neg (fun q => by have := q.2; omega)]
  | succ r ih =>
    intro i x B h v
    rw [z_gf]
    refine z_gk_id K 0 B (fun k _ _ => ih (i + 1) _ B (by omega) ?_)
    have h1 := hp.2.2.2 (z_u5 x i k) i (by omega)
    have h2 := hp.2.1 (z_u5 x i k) x i (by omega) (fun j hj => z_u5n (by omega))
    omega
/-! all rows by their numbers -/
noncomputable def z_gB (n : Nat) (B C : z_Gt) : Prop := B.1 = C.1 ∧ ∀ j, j < n → B.2 j = C.2 j
noncomputable def z_gd (K n m : Nat) : Nat → Nat := fun j => m / K ^ (n - 1 - j) % K
theorem z_gs_c (hp : z_gp n ok co) {x y : Nat → Nat} {B C : z_Gt} (h : ∀ j, j < n → x j = y j) (e : z_gB n B C) : z_gB n (z_gs n ok co x B) (z_gs n ok co y C) := by
  obtain ⟨e1, e2⟩ := e
  have ec := hp.2.1 x y n (Nat.le_refl n) h
  have k : (ok x n ∧ co x n < B.1) ↔ (ok y n ∧ co y n < C.1) := by
    rw [ec, e1]
    constructor
    · rintro ⟨a, b⟩
      exact ⟨hp.1 x y n (Nat.le_refl n) h a, b⟩
    · rintro ⟨a, b⟩
      exact ⟨hp.1 y x n (Nat.le_refl n) (fun j hj => (h j hj).symm) a, b⟩
  unfold z_gs
  by_cases q : ok x n ∧ co x n < B.1
  · rw [if_pos q, if_pos (k.mp q)]
    exact ⟨ec, h⟩
  · rw [if_neg q, if_neg (fun m => q (k.mpr m))]
    exact ⟨e1, e2⟩
noncomputable def z_ge (K n : Nat) (ok : (Nat → Nat) → Nat → Prop) (co : (Nat → Nat) → Nat → Int) : Nat → Nat → z_Gt → z_Gt
  | 0, _, B => B
  | r + 1, k, B => z_ge K n ok co r (k + 1) (z_gs n ok co (z_gd K n k) B)
theorem z_ge_add : ∀ (a b k : Nat) (B : z_Gt), z_ge K n ok co (a + b) k B = z_ge K n ok co b (k + a) (z_ge K n ok co a k B) := by
  intro a
  induction a with
  | zero => intro b k B; rw [Nat.zero_add, Nat.add_zero, z_ge]
  | succ a ih =>
    intro b k B
    rw [show a + 1 + b = (a + b) + 1 by omega, z_ge, z_ge, ih, show k + 1 + a = k + (a + 1) by omega]
theorem z_gd_s {i m c : Nat} {x : Nat → Nat} (hc : c < K) (h : ∀ j, j < i → x j = m / K ^ (i - 1 - j) % K) : ∀ j, j < i + 1 → z_u5 x i c j = (K * m + c) / K ^ (i + 1 - 1 - j) % K := by
  intro j hj
  have hK : 0 < K := by omega
  by_cases q : j = i
  · subst q
    rw [z_u5s, show j + 1 - 1 - j = 0 by omega, Nat.pow_zero, Nat.div_one, Nat.mul_add_mod, Nat.mod_eq_of_lt hc]
  · rw [z_u5n q, h j (by omega), show i + 1 - 1 - j = (i - 1 - j) + 1 by omega, Nat.pow_succ, Nat.mul_comm _ K, ← Nat.div_div_eq_div_mul, Nat.mul_add_div hK, Nat.div_eq_of_lt hc, Nat.add_zero]
theorem z_ge_fd (hp : z_gp n ok co) : ∀ (r i m : Nat) (x : Nat → Nat) (B C : z_Gt), i + r = n → (∀ j, j < i → x j = m / K ^ (i - 1 - j) % K) → z_gB n B C → z_gB n (z_ge K n ok co (K ^ r) (m * K ^ r) B) (z_gf K n ok co r i x C) := by
  intro r
  induction r with
  | zero =>
    intro i m x B C h hx e
    obtain rfl : i = n := by omega
    rw [Nat.pow_zero, Nat.mul_one, z_gf, z_ge, z_ge]
    exact z_gs_c hp (fun j hj => (hx j hj).symm) e
  | succ r ih =>
    intro i m x B C h hx e
    have lp : ∀ (q k : Nat) (B C : z_Gt), k + q = K → z_gB n B C → z_gB n (z_ge K n ok co (q * K ^ r) ((K * m + k) * K ^ r) B) (z_gk (fun k B => z_gf K n ok co r (i + 1) (z_u5 x i k) B) q k C) := by
      intro q
      induction q with
      | zero =>
        intro k B C _ e
        rw [Nat.zero_mul, z_ge, z_gk]
        exact e
      | succ q ih2 =>
        intro k B C hk e
        have e1 : (K * m + k) * K ^ r + K ^ r = (K * m + (k + 1)) * K ^ r := by
          rw [← Nat.add_assoc, Nat.succ_mul]
        rw [show (q + 1) * K ^ r = K ^ r + q * K ^ r by rw [Nat.succ_mul, Nat.add_comm], z_ge_add, e1, z_gk]
        exact ih2 (k + 1) _ _ (by omega) (ih (i + 1) (K * m + k) _ _ _ (by omega) (z_gd_s (by omega) hx) e)
    have := lp K 0 B C (by omega) e
    rw [z_gf, show K ^ (r + 1) = K * K ^ r by rw [Nat.pow_succ, Nat.mul_comm], show m * (K * K ^ r) = (K * m + 0) * K ^ r by rw [Nat.add_zero, ← Nat.mul_assoc, Nat.mul_comm m K]]
    exact this
theorem z_ge_all (hp : z_gp n ok co) (x : Nat → Nat) {B C : z_Gt} (e : z_gB n B C) : z_gB n (z_ge K n ok co (K ^ n) 0 B) (z_gf K n ok co n 0 x C) := by
  have := z_ge_fd (K := K) hp n 0 0 x B C (by omega) (fun j hj => absurd hj (Nat.not_lt_zero j)) e
  rw [Nat.zero_mul] at this
  exact this
end GP
