/-! all rows by their numbers -/
noncomputable def z_eB (n : Nat) (B C : z_Bt) : Prop := B.1 = C.1 ∧ (0 ≤ B.1 → B.2.1 = C.2.1 ∧ ∀ j, j < n → B.2.2 j = C.2.2 j)
theorem z_gn_b (x : Nat → Nat) : ∀ i, 0 ≤ z_gn x i ∧ z_gn x i ≤ i := by
  intro i
  induction i with
  | zero => exact ⟨Int.le_refl 0, Int.le_refl 0⟩
  | succ i ih =>
    rw [z_gn]
    push_cast
    split <;> omega
noncomputable def z_dg (n m : Nat) : Nat → Nat := fun j => m / 5 ^ (n - 1 - j) % 5
section EN
variable {n : Nat} {p : Nat → Int} {ga cg : Nat → Nat → Prop} {lm : Nat → Int}
theorem z_stp_c {x y : Nat → Nat} {B C : z_Bt} (h : ∀ j, j < n → x j = y j) (e : z_eB n B C) : z_eB n (z_stp n p ga cg lm x B) (z_stp n p ga cg lm y C) := by
  obtain ⟨e1, e2⟩ := e
  have g0 := (z_gn_b y n).1
  have k : (z_vp p ga cg lm x n ∧ z_bet B (z_gn x n) (z_sg p x n)) ↔ (z_vp p ga cg lm y n ∧ z_bet C (z_gn y n) (z_sg p y n)) := by
    rw [z_gn_c n h, z_sg_c n h]
    have kb : z_bet B (z_gn y n) (z_sg p y n) ↔ z_bet C (z_gn y n) (z_sg p y n) := by
      unfold z_bet
      by_cases q : 0 ≤ B.1
      · rw [e1, (e2 q).1]
      · constructor
        · intro _
          left
          omega
        · intro _
          left
          omega
    rw [kb]
    constructor
    · rintro ⟨a, b⟩
      exact ⟨z_vp_c h a, b⟩
    · rintro ⟨a, b⟩
      exact ⟨z_vp_c (fun j hj => (h j hj).symm) a, b⟩
  unfold z_stp
  by_cases q : z_vp p ga cg lm x n ∧ z_bet B (z_gn x n) (z_sg p x n)
  · rw [if_pos q, if_pos (k.mp q)]
    exact ⟨z_gn_c n h, fun _ => ⟨z_sg_c n h, h⟩⟩
  · rw [if_neg q, if_neg (fun m => q (k.mpr m))]
    exact ⟨e1, e2⟩
noncomputable def z_enu (n : Nat) (p : Nat → Int) (ga : Nat → Nat → Prop) (cg : Nat → Nat → Prop) (lm : Nat → Int) : Nat → Nat → z_Bt → z_Bt
  | 0, _, B => B
  | r + 1, k, B => z_enu n p ga cg lm r (k + 1) (z_stp n p ga cg lm (z_dg n k) B)
theorem z_en_add : ∀ (a b k : Nat) (B : z_Bt), z_enu n p ga cg lm (a + b) k B = z_enu n p ga cg lm b (k + a) (z_enu n p ga cg lm a k B) := by
  intro a
  induction a with
  | zero => intro b k B; rw [Nat.zero_add, Nat.add_zero, z_enu]
  | succ a ih =>
    intro b k B
    rw [show a + 1 + b = (a + b) + 1 by omega, z_enu, z_enu, ih, show k + 1 + a = k + (a + 1) by omega]
theorem z_dg_s {i m c : Nat} {x : Nat → Nat} (hc : c < 5) (h : ∀ j, j < i → x j = m / 5 ^ (i - 1 - j) % 5) : ∀ j, j < i + 1 → z_u5 x i c j = (5 * m + c) / 5 ^ (i + 1 - 1 - j) % 5 := by
  intro j hj
  by_cases q : j = i
  · subst q
    rw [z_u5s, show j + 1 - 1 - j = 0 by omega, Nat.pow_zero, Nat.div_one]
    omega
  · rw [z_u5n q, h j (by omega), show i + 1 - 1 - j = (i - 1 - j) + 1 by omega, Nat.pow_succ, Nat.mul_comm _ 5, ← Nat.div_div_eq_div_mul, show (5 * m + c) / 5 = m by omega]
theorem z_en_fd : ∀ (r i m : Nat) (x : Nat → Nat) (B C : z_Bt), i + r = n → (∀ j, j < i → x j = m / 5 ^ (i - 1 - j) % 5) → z_eB n B C → z_eB n (z_enu n p ga cg lm (5 ^ r) (m * 5 ^ r) B) (z_fd n p ga cg lm r i x C) := by
  intro r
  induction r with
  | zero =>
    intro i m x B C h hx e
    obtain rfl : i = n := by omega
    rw [Nat.pow_zero, Nat.mul_one, z_fd, z_enu, z_enu]
    exact z_stp_c (fun j hj => (hx j hj).symm) e
  | succ r ih =>
    intro i m x B C h hx e
    have hs : (5 : Nat) ^ (r + 1) = 5 ^ r + (5 ^ r + (5 ^ r + (5 ^ r + 5 ^ r))) := by rw [Nat.pow_succ]; omega
    have hm : ∀ c, m * 5 ^ (r + 1) + c * 5 ^ r = (5 * m + c) * 5 ^ r := by
      intro c
      rw [Nat.pow_succ, Nat.add_mul, Nat.mul_comm 5 m, Nat.mul_assoc, Nat.mul_comm 5]
    have h0 : m * 5 ^ (r + 1) = (5 * m + 0) * 5 ^ r := by
      have := hm 0
      omega
    have h1 : m * 5 ^ (r + 1) + 5 ^ r = (5 * m + 1) * 5 ^ r := by
      have := hm 1
      omega
    have h2 : m * 5 ^ (r + 1) + 5 ^ r + 5 ^ r = (5 * m + 2) * 5 ^ r := by
      have := hm 2
      omega
    have h3 : m * 5 ^ (r + 1) + 5 ^ r + 5 ^ r + 5 ^ r = (5 * m + 3) * 5 ^ r := by
      have := hm 3
      omega
    have h4 : m * 5 ^ (r + 1) + 5 ^ r + 5 ^ r + 5 ^ r + 5 ^ r = (5 * m + 4) * 5 ^ r := by
      have := hm 4
      omega
    clear hm
    generalize m * 5 ^ (r + 1) = K at h0 h1 h2 h3 h4 ⊢
    rw [hs, z_en_add, z_en_add, z_en_add, z_en_add, h4, h3, h2, h1, h0, z_fd]
    refine ih (i + 1) _ _ _ _ (by omega) (z_dg_s (by decide) hx) ?_
    refine ih (i + 1) _ _ _ _ (by omega) (z_dg_s (by decide) hx) ?_
    refine ih (i + 1) _ _ _ _ (by omega) (z_dg_s (by decide) hx) ?_
    refine ih (i + 1) _ _ _ _ (by omega) (z_dg_s (by decide) hx) ?_
    exact ih (i + 1) _ _ _ _ (by omega) (z_dg_s (by decide) hx) e
theorem z_en_all (x : Nat → Nat) {B C : z_Bt} (e : z_eB n B C) : z_eB n (z_enu n p ga cg lm (5 ^ n) 0 B) (z_fd n p ga cg lm n 0 x C) := by
  have := z_en_fd (p := p) (ga := ga) (cg := cg) (lm := lm) n 0 0 x B C (by omega) (fun j hj => by omega) e
  rw [Nat.zero_mul] at this
  exact this
theorem z_ld4 {k : Nat} (hk : k ≠ 4) : ∀ i, z_ld p (fun _ => 4) k i = 0 := by
  intro i
  induction i with
  | zero => rfl
  | succ i ih =>
    rw [z_ld, ih, if_neg (fun m => hk m.symm)]
    rfl
theorem z_vp4 (hl : ∀ k, 0 ≤ lm k) (i : Nat) : z_vp p ga cg lm (fun _ => 4) i := by
  refine ⟨fun j _ => Or.inl rfl, fun j l _ _ _ => rfl, fun k hk => ?_⟩
  rw [z_ld4 (by omega)]
  exact hl k
theorem z_fd4 (hl : ∀ k, 0 ≤ lm k) : ∀ (r i : Nat) (x : Nat → Nat) (B : z_Bt), i + r = n → (∀ j, j < i → x j = 4) → 0 ≤ (z_fd n p ga cg lm r i x B).1 := by
  intro r
  induction r with
  | zero =>
    intro i x B h hx
    obtain rfl : i = n := by omega
    have v : z_vp p ga cg lm x i := z_vp_c (fun j hj => (hx j hj).symm) (z_vp4 hl i)
    have g0 := (z_gn_b x i).1
    rw [z_fd, z_stp]
    by_cases q : z_vp p ga cg lm x i ∧ z_bet B (z_gn x i) (z_sg p x i)
    · rw [if_pos q]
      exact g0
    · rw [if_neg q]
      have q2 : ¬ z_bet B (z_gn x i) (z_sg p x i) := fun m => q ⟨v, m⟩
      unfold z_bet at q2
      omega
  | succ r ih =>
    intro i x B h hx
    rw [z_fd]
    refine ih (i + 1) _ _ (by omega) (fun j hj => ?_)
    by_cases q : j = i
    · rw [q, z_u5s]
    · rw [z_u5n q]
      exact hx j (by omega)
end EN
/-- what the search needs to know: one more gust -/
theorem z_ldu {p : Nat → Int} {x : Nat → Nat} {i k c : Nat} : z_ld p (z_u5 x i c) k (i + 1) = z_ld p x k i + (if c = k then p i else 0) := by rw [z_ld, z_u5s, z_ld_c i (fun j hj => z_u5n (by omega))]
theorem z_gnu {x : Nat → Nat} {i c : Nat} : z_gn (z_u5 x i c) (i + 1) = z_gn x i + (if c = 4 then 0 else 1) := by rw [z_gn, z_u5s, z_gn_c i (fun j hj => z_u5n (by omega))]
theorem z_sgu {p : Nat → Int} {x : Nat → Nat} {i c : Nat} : z_sg p (z_u5 x i c) (i + 1) = z_sg p x i + (if c = 4 then 0 else p i) := by rw [z_sg, z_u5s, z_sg_c i (fun j hj => z_u5n (by omega))]
theorem z_vpu {p : Nat → Int} {ga cg : Nat → Nat → Prop} {lm : Nat → Int} {x : Nat → Nat} {i c : Nat} (v : z_vp p ga cg lm x i) (hc : c = 4 ∨ c < 4) : z_vp p ga cg lm (z_u5 x i c) (i + 1) ↔ (∀ l, l < i → ga l i → x l = c) ∧ (c = 4 ∨ cg i c ∧ z_ld p x c i + p i ≤ lm c) := by
  obtain ⟨v1, v2, v3⟩ := v
  constructor
  · rintro ⟨w1, w2, w3⟩
    refine ⟨fun l hl hg => ?_, ?_⟩
    · have := w2 i l (by omega) hl hg
      rw [z_u5s, z_u5n (by omega)] at this
      exact this
    · rcases hc with hc | hc
      · exact Or.inl hc
      · right
        have a := w1 i (by omega)
        have b := w3 c hc
        rw [z_u5s] at a
        rw [z_ldu, if_pos rfl] at b
        rcases a with a | a
        · omega
        · exact ⟨a.2, b⟩
  · rintro ⟨w1, w2⟩
    refine ⟨fun j hj => ?_, fun j l hj hl hg => ?_, fun k hk => ?_⟩
    · by_cases q : j = i
      · subst q
        rw [z_u5s]
        rcases w2 with w2 | w2
        · exact Or.inl w2
        · rcases hc with hc | hc
          · exact Or.inl hc
          · exact Or.inr ⟨hc, w2.1⟩
      · rw [z_u5n q]
        exact v1 j (by omega)
    · by_cases q : j = i
      · subst q
        rw [z_u5s, z_u5n (by omega)]
        exact w1 l hl hg
      · rw [z_u5n q, z_u5n (by omega)]
        exact v2 j l (by omega) hl hg
    · rw [z_ldu]
      have := v3 k hk
      by_cases q : c = k
      · subst q
        rw [if_pos rfl]
        rcases w2 with w2 | w2
        · omega
        · exact w2.2
      · rw [if_neg q]
        omega
