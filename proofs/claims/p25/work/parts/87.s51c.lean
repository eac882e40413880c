/-! taught: what is needed too, turn by turn (pure) -/
def z_ps (M : Nat → Nat) : Nat → Nat → Nat → Nat
  | 0, _, x => x
  | r + 1, k, x => z_ps M r (k + 1) (if x.testBit k = true then x ||| M k else x)
def z_tur (M : Nat → Nat) : Nat → Nat → Nat
  | 0, x => x
  | m + 1, x => z_tur M m (z_ps M 10 0 x)
def z_sbs (x y : Nat) : Prop := ∀ i, x.testBit i = true → y.testBit i = true
theorem z_sbs_r (x : Nat) : z_sbs x x := fun _ h => h
theorem z_sbs_t {x y z : Nat} (h : z_sbs x y) (g : z_sbs y z) : z_sbs x z := fun i q => g i (h i q)
theorem z_sbs_e {x y : Nat} (h : z_sbs x y) (g : z_sbs y x) : x = y := by
  refine Nat.eq_of_testBit_eq (fun i => ?_)
  by_cases q : x.testBit i = true
  · rw [q, h i q]
  · have q2 : ¬ y.testBit i = true := fun m => q (g i m)
    simp only [Bool.not_eq_true] at q q2
    rw [q, q2]
theorem z_sbs_l (x y : Nat) : z_sbs x (x ||| y) := fun i q => by
  rw [Nat.testBit_or, q, Bool.true_or]
theorem z_sbs_o {x y z : Nat} (h : z_sbs x z) (g : z_sbs y z) : z_sbs (x ||| y) z := fun i q => by
  rw [Nat.testBit_or, Bool.or_eq_true] at q
  exact q.elim (h i) (g i)
section TP
variable {M : Nat → Nat}
theorem z_ps_up : ∀ (r k x : Nat), z_sbs x (z_ps M r k x) := by
  intro r
  induction r with
  | zero => intro k x; exact z_sbs_r x
  | succ r ih =>
    intro k x
    rw [z_ps]
    by_cases q : x.testBit k = true
    · rw [if_pos q]
      exact z_sbs_t (z_sbs_l x (M k)) (ih (k + 1) _)
    · rw [if_neg q]
      exact ih (k + 1) x
theorem z_ps_lt (hM : ∀ k, k < 10 → M k < 1024) : ∀ (r k x : Nat), k + r ≤ 10 → x < 1024 → z_ps M r k x < 1024 := by
  intro r
  induction r with
  | zero => intro k x _ h; exact h
  | succ r ih =>
    intro k x hk h
    rw [z_ps]
    refine ih (k + 1) _ (by omega) ?_
    split
    · exact Nat.or_lt_two_pow (n := 10) h (hM k (by omega))
    · exact h
def z_cld (M : Nat → Nat) (y : Nat) : Prop := ∀ k, k < 10 → y.testBit k = true → z_sbs (M k) y
theorem z_ps_cl {y : Nat} (hy : z_cld M y) : ∀ (r k x : Nat), k + r ≤ 10 → z_sbs x y → z_sbs (z_ps M r k x) y := by
  intro r
  induction r with
  | zero => intro k x _ h; exact h
  | succ r ih =>
    intro k x hk h
    rw [z_ps]
    refine ih (k + 1) _ (by omega) ?_
    by_cases q : x.testBit k = true
    · rw [if_pos q]
      exact z_sbs_o h (hy k (by omega) (h k q))
    · rw [if_neg q]
      exact h
theorem z_ps_fx : ∀ (r k x : Nat), z_sbs (z_ps M r k x) x → ∀ j, k ≤ j → j < k + r → x.testBit j = true → z_sbs (M j) x := by
  intro r
  induction r with
  | zero => intro k x _ j h1 h2; omega
  | succ r ih =>
    intro k x h j h1 h2 hj
    rw [z_ps] at h
    by_cases q : x.testBit k = true
    · rw [if_pos q] at h
      have h3 : z_sbs (x ||| M k) x := z_sbs_t (z_ps_up r (k + 1) _) h
      have e : x ||| M k = x := z_sbs_e h3 (z_sbs_l x (M k))
      by_cases c : j = k
      · rw [c]
        intro i hi
        refine h3 i ?_
        rw [Nat.testBit_or, hi, Bool.or_true]
      · rw [e] at h
        exact ih (k + 1) x h j (by omega) (by omega) hj
    · rw [if_neg q] at h
      by_cases c : j = k
      · rw [c] at hj
        exact absurd hj q
      · exact ih (k + 1) x h j (by omega) (by omega) hj
theorem z_cld_fx {x : Nat} (h : z_ps M 10 0 x = x) : z_cld M x := fun k hk q => z_ps_fx 10 0 x (by rw [h]; exact z_sbs_r x) k (Nat.zero_le k) (by omega) q
theorem z_tur_up : ∀ (m x : Nat), z_sbs x (z_tur M m x) := by
  intro m
  induction m with
  | zero => intro x; exact z_sbs_r x
  | succ m ih => intro x; rw [z_tur]; exact z_sbs_t (z_ps_up 10 0 x) (ih _)
theorem z_tur_lt (hM : ∀ k, k < 10 → M k < 1024) : ∀ (m x : Nat), x < 1024 → z_tur M m x < 1024 := by
  intro m
  induction m with
  | zero => intro x h; exact h
  | succ m ih => intro x h; rw [z_tur]; exact ih _ (z_ps_lt hM 10 0 x (by omega) h)
theorem z_tur_cl {y : Nat} (hy : z_cld M y) : ∀ (m x : Nat), z_sbs x y → z_sbs (z_tur M m x) y := by
  intro m
  induction m with
  | zero => intro x h; exact h
  | succ m ih => intro x h; rw [z_tur]; exact ih _ (z_ps_cl hy 10 0 x (by omega) h)
theorem z_tur_fx {x : Nat} (h : z_ps M 10 0 x = x) : ∀ m, z_tur M m x = x := by
  intro m
  induction m with
  | zero => rfl
  | succ m ih => rw [z_tur, h, ih]
theorem z_tur_s : ∀ (m x : Nat), z_tur M (m + 1) x = z_ps M 10 0 (z_tur M m x) := by
  intro m
  induction m with
  | zero => intro x; rfl
  | succ m ih => intro x; rw [z_tur, ih, z_tur]
theorem z_cn_sb {x y : Nat} (h : z_sbs x y) : ∀ m, z_cn x m ≤ z_cn y m := by
  intro m
  induction m with
  | zero => exact Nat.le_refl _
  | succ m ih =>
    rw [z_cn, z_cn]
    by_cases q : x.testBit m = true
    · rw [if_pos q, if_pos (h m q)]
      omega
    · rw [if_neg q]
      split <;> omega
theorem z_cn_sl {x y i : Nat} (h : z_sbs x y) (hx : ¬ x.testBit i = true) (hy : y.testBit i = true) : ∀ m, i < m → z_cn x m + 1 ≤ z_cn y m := by
  intro m
  induction m with
  | zero => intro q; omega
  | succ m ih =>
    intro q
    rw [z_cn, z_cn]
    by_cases e : i = m
    · rw [← e, if_neg hx, if_pos hy]
      have := z_cn_sb h i
      omega
    · have := ih (by omega)
      by_cases t : x.testBit m = true
      · rw [if_pos t, if_pos (h m t)]
        omega
      · rw [if_neg t]
        split <;> omega
theorem z_hi10 {x i : Nat} (h : x < 1024) (q : x.testBit i = true) : i < 10 := by
  refine Classical.byContradiction (fun m => ?_)
  rw [Nat.testBit_lt_two_pow (by have : 2 ^ 10 ≤ 2 ^ i := Nat.pow_le_pow_right (by decide) (by omega); omega)] at q
  cases q
theorem z_ps_gr (hM : ∀ k, k < 10 → M k < 1024) {x : Nat} (hx : x < 1024) (h : ¬ z_ps M 10 0 x = x) : z_cn x 10 + 1 ≤ z_cn (z_ps M 10 0 x) 10 := by
  have ⟨i, hi⟩ : ∃ i, (z_ps M 10 0 x).testBit i = true ∧ ¬ x.testBit i = true := Classical.byContradiction (fun m => h (z_sbs_e (fun i q => Classical.byContradiction (fun w => m ⟨i, q, w⟩)) (z_ps_up 10 0 x)))
  exact z_cn_sl (z_ps_up 10 0 x) hi.2 hi.1 10 (z_hi10 (z_ps_lt hM 10 0 x (by omega) hx) hi.1)
theorem z_tur_gr (hM : ∀ k, k < 10 → M k < 1024) : ∀ (m x : Nat), x < 1024 → z_ps M 10 0 (z_tur M m x) = z_tur M m x ∨ z_cn x 10 + m ≤ z_cn (z_tur M m x) 10 := by
  intro m
  induction m with
  | zero => intro x _; exact Or.inr (Nat.le_refl _)
  | succ m ih =>
    intro x hx
    by_cases q : z_ps M 10 0 x = x
    · rw [z_tur_fx q]
      exact Or.inl q
    · rw [z_tur]
      rcases ih (z_ps M 10 0 x) (z_ps_lt hM 10 0 x (by omega) hx) with h | h
      · exact Or.inl h
      · have := z_ps_gr hM hx q
        exact Or.inr (by omega)
theorem z_ps_0 : ∀ (r k : Nat), z_ps M r k 0 = 0 := by
  intro r
  induction r with
  | zero => intro k; rfl
  | succ r ih =>
    intro k
    rw [z_ps, if_neg (by rw [Nat.zero_testBit]; exact fun m => Bool.noConfusion m)]
    exact ih (k + 1)
/-- ten turns are enough -/
theorem z_tur_10 (hM : ∀ k, k < 10 → M k < 1024) {x : Nat} (hx : x < 1024) : z_ps M 10 0 (z_tur M 10 x) = z_tur M 10 x := by
  by_cases x0 : x = 0
  · rw [x0, z_tur_fx (z_ps_0 10 0)]
    exact z_ps_0 10 0
  · rcases z_tur_gr hM 10 x hx with h | h
    · exact h
    · obtain ⟨i, hi⟩ := Nat.exists_testBit_of_ne_zero x0
      have i10 := z_hi10 hx hi
      have c1 := z_cn_lt i10 hi
      have c2 := z_cnkU (z_tur M 10 x) 10
      omega
/-- turns until nothing is new: the same -/
theorem z_tur_eq (hM : ∀ k, k < 10 → M k < 1024) {x : Nat} (hx : x < 1024) {m : Nat} (h : z_ps M 10 0 (z_tur M m x) = z_tur M m x) : z_tur M m x = z_tur M 10 x := z_sbs_e (z_tur_cl (z_cld_fx (z_tur_10 hM hx)) m x (z_tur_up 10 x)) (z_tur_cl (z_cld_fx h) 10 x (z_tur_up m x))
end TP
