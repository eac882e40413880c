/-! letting go: all rows in their order, and a search with a bound -/
noncomputable def z_u5 (x : Nat → Nat) (i k : Nat) : Nat → Nat := fun j => if j = i then k else x j
noncomputable def z_gn (x : Nat → Nat) : Nat → Int
  | 0 => 0
  | i + 1 => z_gn x i + (if x i = 4 then 0 else 1)
noncomputable def z_sg (p : Nat → Int) (x : Nat → Nat) : Nat → Int
  | 0 => 0
  | i + 1 => z_sg p x i + (if x i = 4 then 0 else p i)
noncomputable def z_ld (p : Nat → Int) (x : Nat → Nat) (k : Nat) : Nat → Int
  | 0 => 0
  | i + 1 => z_ld p x k i + (if x i = k then p i else 0)
/-- a row that may be, as far as it goes: ga the gales, cg who may go with which wind, lm what a wind can bear -/
noncomputable def z_vp (p : Nat → Int) (ga : Nat → Nat → Prop) (cg : Nat → Nat → Prop) (lm : Nat → Int) (x : Nat → Nat) (i : Nat) : Prop := (∀ j, j < i → x j = 4 ∨ x j < 4 ∧ cg j (x j)) ∧ (∀ j l, j < i → l < j → ga l j → x l = x j) ∧ ∀ k, k < 4 → z_ld p x k i ≤ lm k
noncomputable abbrev z_Bt : Type := Int × Int × (Nat → Nat)
noncomputable def z_bet (B : z_Bt) (g s : Int) : Prop := B.1 < g ∨ g = B.1 ∧ B.2.1 < s
noncomputable def z_stp (n : Nat) (p : Nat → Int) (ga : Nat → Nat → Prop) (cg : Nat → Nat → Prop) (lm : Nat → Int) (x : Nat → Nat) (B : z_Bt) : z_Bt := @ite _ (z_vp p ga cg lm x n ∧ z_bet B (z_gn x n) (z_sg p x n)) (Classical.propDecidable _) (z_gn x n, z_sg p x n, x) B
noncomputable def z_fd (n : Nat) (p : Nat → Int) (ga : Nat → Nat → Prop) (cg : Nat → Nat → Prop) (lm : Nat → Int) : Nat → Nat → (Nat → Nat) → z_Bt → z_Bt
  | 0, _, x, B => z_stp n p ga cg lm x B
  | r + 1, i, x, B => z_fd n p ga cg lm r (i + 1) (z_u5 x i 4) (z_fd n p ga cg lm r (i + 1) (z_u5 x i 3) (z_fd n p ga cg lm r (i + 1) (z_u5 x i 2) (z_fd n p ga cg lm r (i + 1) (z_u5 x i 1) (z_fd n p ga cg lm r (i + 1) (z_u5 x i 0) B))))
theorem z_u5s {x : Nat → Nat} {i k : Nat} : z_u5 x i k i = k := by simp [z_u5]
theorem z_u5n {x : Nat → Nat} {i k j : Nat} (h : j ≠ i) : z_u5 x i k j = x j := by simp [z_u5, h]
theorem z_gn_c {x y : Nat → Nat} : ∀ i, (∀ j, j < i → x j = y j) → z_gn x i = z_gn y i := by
  intro i
  induction i with
  | zero => intro _; rfl
  | succ i ih =>
    intro h
    rw [z_gn, z_gn, ih (fun j hj => h j (by omega)), h i (by omega)]
theorem z_sg_c {p : Nat → Int} {x y : Nat → Nat} : ∀ i, (∀ j, j < i → x j = y j) → z_sg p x i = z_sg p y i := by
  intro i
  induction i with
  | zero => intro _; rfl
  | succ i ih =>
    intro h
    rw [z_sg, z_sg, ih (fun j hj => h j (by omega)), h i (by omega)]
theorem z_ld_c {p : Nat → Int} {x y : Nat → Nat} {k : Nat} : ∀ i, (∀ j, j < i → x j = y j) → z_ld p x k i = z_ld p y k i := by
  intro i
  induction i with
  | zero => intro _; rfl
  | succ i ih =>
    intro h
    rw [z_ld, z_ld, ih (fun j hj => h j (by omega)), h i (by omega)]
theorem z_vp_c {p : Nat → Int} {ga cg : Nat → Nat → Prop} {lm : Nat → Int} {x y : Nat → Nat} {i : Nat} (h : ∀ j, j < i → x j = y j) (v : z_vp p ga cg lm x i) : z_vp p ga cg lm y i := by
  obtain ⟨v1, v2, v3⟩ := v
  refine ⟨fun j hj => ?_, fun j l hj hl hg => ?_, fun k hk => ?_⟩
  · rw [← h j hj]
    exact v1 j hj
  · rw [← h j hj, ← h l (by omega)]
    exact v2 j l hj hl hg
  · rw [← z_ld_c i h]
    exact v3 k hk
theorem z_vp_p {p : Nat → Int} (hp : ∀ i, 0 ≤ p i) {ga cg : Nat → Nat → Prop} {lm : Nat → Int} {x : Nat → Nat} {i : Nat} (v : z_vp p ga cg lm x (i + 1)) : z_vp p ga cg lm x i := by
  obtain ⟨v1, v2, v3⟩ := v
  refine ⟨fun j hj => v1 j (by omega), fun j l hj hl hg => v2 j l (by omega) hl hg, fun k hk => ?_⟩
  have h := v3 k hk
  have := hp i
  rw [z_ld] at h
  split at h
  · omega
  · omega
section FD
variable {n : Nat} {p : Nat → Int} {ga cg : Nat → Nat → Prop} {lm : Nat → Int}
/-- a row that can't be goes on to nothing -/
theorem z_fd_inv (hp : ∀ i, 0 ≤ p i) : ∀ (r i : Nat) (x : Nat → Nat) (B : z_Bt), i + r = n → ¬ z_vp p ga cg lm x i → z_fd n p ga cg lm r i x B = B := by
  intro r
  induction r with
  | zero =>
    intro i x B h v
    obtain rfl : i = n := by omega
    rw [z_fd, z_stp, if_neg (fun q => v q.1)]
  | succ r ih =>
    intro i x B h v
    have k : ∀ k B, z_fd n p ga cg lm r (i + 1) (z_u5 x i k) B = B := fun k B => ih (i + 1) _ B (by omega) (fun w => v (z_vp_c (fun j hj => z_u5n (by omega)) (z_vp_p hp w)))
    rw [z_fd, k, k, k, k, k]
noncomputable def z_sf (p : Nat → Int) : Nat → Nat → Int
  | 0, _ => 0
  | r + 1, i => p i + z_sf p r (i + 1)
theorem z_sf0 (hp : ∀ i, 0 ≤ p i) : ∀ r i, 0 ≤ z_sf p r i := by
  intro r
  induction r with
  | zero => intro i; exact Int.le_refl 0
  | succ r ih =>
    intro i
    have := hp i
    have := ih (i + 1)
    rw [z_sf]
    omega
/-- nor does one that can't be better than what is known -/
theorem z_fd_bnd (hp : ∀ i, 0 ≤ p i) : ∀ (r i : Nat) (x : Nat → Nat) (B : z_Bt), i + r = n → ¬ z_bet B (z_gn x i + r) (z_sg p x i + z_sf p r i) → z_fd n p ga cg lm r i x B = B := by
  intro r
  induction r with
  | zero =>
    intro i x B h v
    obtain rfl : i = n := by omega
    rw [z_fd, z_stp, if_neg]
    intro q
    refine v ?_
    have q2 := q.2
    rw [z_sf, Int.add_zero]
    simpa using q2
  | succ r ih =>
    intro i x B h v
    have k : ∀ k, z_fd n p ga cg lm r (i + 1) (z_u5 x i k) B = B := by
      intro k
      refine ih (i + 1) _ B (by omega) (fun w => v ?_)
      have e1 : z_gn (z_u5 x i k) (i + 1) = z_gn x i + (if k = 4 then 0 else 1) := by
        rw [z_gn, z_u5s, z_gn_c i (fun j hj => z_u5n (by omega))]
      have e2 : z_sg p (z_u5 x i k) (i + 1) = z_sg p x i + (if k = 4 then 0 else p i) := by
        rw [z_sg, z_u5s, z_sg_c i (fun j hj => z_u5n (by omega))]
      rw [e1, e2] at w
      have hp0 := hp i
      unfold z_bet at w ⊢
      rw [z_sf]
      push_cast
      split at w
      · omega
      · omega
    rw [z_fd, k, k, k, k, k]
end FD
