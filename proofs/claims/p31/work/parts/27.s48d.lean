/-! counts and masks: what several plans use -/
theorem z_cnkU (X : Nat) : ∀ k, z_cn X k ≤ k := by
  intro k
  induction k with
  | zero => exact Nat.le_refl 0
  | succ k ih =>
    rw [z_cn]
    split <;> omega
theorem z_ofBU {A B : Int32} (h : ∀ i, i < 32 → A.toBitVec.getLsbD i = B.toBitVec.getLsbD i) : A = B := Int32.toBitVec_inj.mp (BitVec.eq_of_getLsbD_eq h)
theorem z_orN (a b : Nat) : z_i a ||| z_i b = z_i (a ||| b) := by
  refine z_ofBU (fun i hi => ?_)
  simp only [Int32.toBitVec_or, BitVec.getLsbD_or, z_ibv, BitVec.getLsbD_ofNat, Nat.testBit_or, hi, decide_true, Bool.true_and]
noncomputable def z_nt (a b : Nat) : Nat := a ^^^ (a &&& b)
theorem z_nt_t (a b i : Nat) : (z_nt a b).testBit i = true ↔ a.testBit i = true ∧ ¬ b.testBit i = true := by
  unfold z_nt
  rw [Nat.testBit_xor, Nat.testBit_and]
  cases a.testBit i <;> cases b.testBit i <;> decide
/-- the first that can be taught; 10: none -/
theorem z_cn_nt {x h : Nat} (hx : x.testBit h = true) : ∀ m, h < m → z_cn (z_nt x (2 ^ h)) m + 1 = z_cn x m := by
  have lo : ∀ m, m ≤ h → z_cn (z_nt x (2 ^ h)) m = z_cn x m := by
    intro m
    induction m with
    | zero => intro _; rfl
    | succ m ih =>
      intro q
      have e : (z_nt x (2 ^ h)).testBit m = true ↔ x.testBit m = true := by
        rw [z_nt_t, Nat.testBit_two_pow, decide_eq_true_iff]
        exact ⟨fun w => w.1, fun w => ⟨w, by omega⟩⟩
      rw [z_cn, z_cn, ih (by omega)]
      by_cases t : x.testBit m = true
      · rw [if_pos t, if_pos (e.mpr t)]
      · rw [if_neg t, if_neg (fun w => t (e.mp w))]
  intro m
  induction m with
  | zero => intro q; omega
  | succ m ih =>
    intro q
    rw [z_cn, z_cn]
    by_cases c : m = h
    · rw [c, lo h (Nat.le_refl h), if_pos hx, if_neg (fun w => ((z_nt_t _ _ _).mp w).2 (by rw [Nat.testBit_two_pow, decide_eq_true_iff]))]
    · have e : (z_nt x (2 ^ h)).testBit m = true ↔ x.testBit m = true := by
        rw [z_nt_t, Nat.testBit_two_pow, decide_eq_true_iff]
        exact ⟨fun w => w.1, fun w => ⟨w, fun z => c z.symm⟩⟩
      have := ih (by omega)
      by_cases t : x.testBit m = true
      · rw [if_pos t, if_pos (e.mpr t)]
        omega
      · rw [if_neg t, if_neg (fun w => t (e.mp w))]
        exact this
theorem z_sh_all : ∀ h : Fin 12, Int32.ofInt 1 <<< (z_i h.val &&& 31) = z_i (2 ^ h.val) := by decide +kernel
