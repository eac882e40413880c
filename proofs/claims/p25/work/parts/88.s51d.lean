/-! taught: masks, the greedy order, the class's words -/
def z_fr (N : Nat → Nat) (due had : Nat) : Nat → Nat → Nat
  | 0, _ => 10
  | r + 1, k => if due.testBit k = true ∧ z_nt (N k) had = 0 then k else z_fr N due had r (k + 1)
theorem z_fr_ok {N : Nat → Nat} {due had : Nat} : ∀ (r k : Nat), k + r = 10 → z_fr N due had r k = 10 ∨ z_fr N due had r k < 10 ∧ due.testBit (z_fr N due had r k) = true := by
  intro r
  induction r with
  | zero => intro k _; exact Or.inl rfl
  | succ r ih =>
    intro k hk
    rw [z_fr]
    by_cases q : due.testBit k = true ∧ z_nt (N k) had = 0
    · rw [if_pos q]
      exact Or.inr ⟨by omega, q.1⟩
    · rw [if_neg q]
      exact ih (k + 1) (by omega)
def z_stq (N : Nat → Nat) (due had : Nat) : Nat → Nat × Nat
  | 0 => (due, had)
  | k + 1 => (z_nt (z_stq N due had k).1 (2 ^ z_fr N (z_stq N due had k).1 (z_stq N due had k).2 10 0), (z_stq N due had k).2 ||| 2 ^ z_fr N (z_stq N due had k).1 (z_stq N due had k).2 10 0)
def z_ord1 (N : Nat → Nat) (due had k : Nat) : Nat := z_fr N (z_stq N due had k).1 (z_stq N due had k).2 10 0
section TC
variable {N : Nat → Nat} {S : v_Sf}
theorem z_wn19 {hb : Nat} (hN : ∀ k, k < 10 → S 48 k = z_i (N k)) (κ : Int32 → Int32) (k9 : Nat) : ∀ (r k x : Nat), k + r = 10 → r_X6_withNeeds_19 (z_i hb) S κ k9 r k (z_i x) = κ (z_i (z_ps (fun k => z_nt (N k) hb) r k x)) := by
  intro r
  induction r with
  | zero => intro k x _; rw [r_X6_withNeeds_19, z_ps]
  | succ r ih =>
    intro k x hk
    rw [r_X6_withNeeds_19, z_ps, z_iin (by omega)]
    by_cases q : x.testBit k = true
    · rw [if_neg (fun m => by rw [(z_isInN (show k < 12 by omega)).mp m] at q; cases q), if_pos q, hN k (by omega), z_anot, z_orN]
      exact ih (k + 1) _ (by omega)
    · rw [if_pos ((z_isInN (show k < 12 by omega)).mpr (by simpa using q)), if_neg q]
      exact ih (k + 1) x (by omega)
theorem z_wn9 {hb : Nat} (hN : ∀ k, k < 10 → S 48 k = z_i (N k)) : ∀ (r k x : Nat), r_X6_withNeeds_9 (z_i hb) S r k (z_i x) = z_i (z_tur (fun k => z_nt (N k) hb) r x) := by
  intro r
  induction r with
  | zero => intro k x; rw [r_X6_withNeeds_9, z_tur]
  | succ r ih =>
    intro k x
    rw [r_X6_withNeeds_9, z_tur, show 10 - 0 = 10 from rfl, z_wn19 hN _ k 10 0 x (by omega)]
    exact ih (k + 1) _
theorem z_wnC {hb w : Nat} (hN : ∀ k, k < 10 → S 48 k = z_i (N k)) : f_X6_withNeeds (z_i hb) (z_i w) S = z_i (z_tur (fun k => z_nt (N k) hb) 10 (z_nt w hb)) := by
  unfold f_X6_withNeeds F_X6_withNeeds
  rw [z_anot]
  exact z_wn9 hN 10 0 _
theorem z_lrC (hN : ∀ k, k < 10 → S 48 k = z_i (N k)) (hl : ∀ k, k < 10 → N k < 1024) (due had : Nat) : ∀ (r k : Nat), k + r = 10 → r_X6_lowestReady_2 (z_i due) (z_i had) S r k = if z_fr N due had r k < 10 then z_i (z_fr N due had r k) else Int32.ofInt (-1) := by
  intro r
  induction r with
  | zero => intro k _; rw [r_X6_lowestReady_2, z_fr, if_neg (by decide)]
  | succ r ih =>
    intro k hk
    rw [r_X6_lowestReady_2, z_fr, z_iin (by omega), hN k (by omega), z_anot]
    by_cases q : due.testBit k = true
    · rw [if_neg (fun m => by rw [(z_isInN (show k < 12 by omega)).mp m] at q; cases q)]
      by_cases t : z_nt (N k) had = 0
      · rw [if_neg (show ¬ ¬ z_i (z_nt (N k) had) = 0 from fun m => m (by rw [t]; rfl)), if_pos (show due.testBit k = true ∧ z_nt (N k) had = 0 from ⟨q, t⟩), if_pos (show k < 10 by omega)]
      · have l2 := z_nt_lt had (hl k (by omega))
        have t2 : ¬ z_i (z_nt (N k) had) = 0 := fun m => t (by have := congrArg (fun z => z.toInt.toNat) m; simp only [z_iin (show z_nt (N k) had < 2147483648 by omega)] at this; exact this)
        rw [if_neg (show ¬ (due.testBit k = true ∧ z_nt (N k) had = 0) from fun m => t m.2)]
        rw [if_pos t2]
        exact ih (k + 1) (by omega)
    · rw [if_pos ((z_isInN (show k < 12 by omega)).mpr (by simpa using q)), if_neg (show ¬ (due.testBit k = true ∧ z_nt (N k) had = 0) from fun m => q m.1)]
      exact ih (k + 1) (by omega)
end TC
