/-! taught: the class's order -/
section TO
variable {N : Nat → Nat} {due had : Nat}
theorem z_stq_lt (hd : due < 1024) : ∀ k, (z_stq N due had k).1 < 1024 := by
  intro k
  induction k with
  | zero => exact hd
  | succ k ih =>
    rw [z_stq]
    exact z_nt_lt _ ih
/-- as long as one is found, one is done each time -/
theorem z_stq_cn : ∀ k, (∀ j, j < k → z_ord1 N due had j < 10) → z_cn (z_stq N due had k).1 10 + k = z_cn due 10 := by
  intro k
  induction k with
  | zero => intro _; rfl
  | succ k ih =>
    intro h
    have h1 := ih (fun j hj => h j (by omega))
    have h2 : z_ord1 N due had k < 10 := h k (by omega)
    unfold z_ord1 at h2
    rcases z_fr_ok (N := N) (due := (z_stq N due had k).1) (had := (z_stq N due had k).2) 10 0 (by omega) with q | q
    · omega
    · have h3 := z_cn_nt q.2 10 q.1
      rw [z_stq]
      dsimp only
      omega
theorem z_orC {L : Nat} (hd : due < 1024) (hL : L = z_cn due 10) (hl : ∀ k, k < 10 → N k < 1024) : ∀ (r k : Nat) (S : v_Sf), k + r = L → (∀ k, k < 10 → S 48 k = z_i (N k)) → (∀ j, j < k → z_ord1 N due had j < 10) → (∀ j, j < k → S 49 j = z_i (z_ord1 N due had j)) → ((r_X6_order_19 (z_i L) r k (z_i (z_stq N due had k).1) (z_i (z_stq N due had k).2) S).1 = z_i L ∧ (∀ j, j < L → z_ord1 N due had j < 10) ∧ ∀ j, j < L → (r_X6_order_19 (z_i L) r k (z_i (z_stq N due had k).1) (z_i (z_stq N due had k).2) S).2 49 j = z_i (z_ord1 N due had j)) ∨ ((r_X6_order_19 (z_i L) r k (z_i (z_stq N due had k).1) (z_i (z_stq N due had k).2) S).1 = Int32.ofInt (-2) ∧ ¬ ∀ j, j < L → z_ord1 N due had j < 10) := by
  have L10 : L ≤ 10 := by
    have := z_cnkU due 10
    omega
  intro r
  induction r with
  | zero =>
    intro k S hk hN hO hR
    obtain rfl : k = L := by omega
    rw [r_X6_order_19]
    exact Or.inl ⟨rfl, hO, hR⟩
  | succ r ih =>
    intro k S hk hN hO hR
    have lr : f_X6_lowestReady (z_i (z_stq N due had k).1) (z_i (z_stq N due had k).2) S = if z_ord1 N due had k < 10 then z_i (z_ord1 N due had k) else Int32.ofInt (-1) := by
      unfold f_X6_lowestReady F_X6_lowestReady z_ord1
      exact z_lrC hN hl _ _ 10 0 (by omega)
    rw [r_X6_order_19, if_neg (show ¬ Int32.ofInt 10 ≤ z_i k by rw [show Int32.ofInt 10 = z_i 10 from rfl, z_ile (by omega) (by omega)]; omega), lr]
    by_cases q : z_ord1 N due had k < 10
    · have e1 : z_i (z_stq N due had k).1 &&& (z_i (2 ^ z_ord1 N due had k) ^^^ Int32.ofInt (-1)) = z_i (z_stq N due had (k + 1)).1 := z_anot _ _
      have e2 : z_i (z_stq N due had k).2 ||| z_i (2 ^ z_ord1 N due had k) = z_i (z_stq N due had (k + 1)).2 := z_orN _ _
      have e3 : Int32.ofInt 1 <<< (z_i (z_ord1 N due had k) &&& 31) = z_i (2 ^ z_ord1 N due had k) := z_sh_all ⟨z_ord1 N due had k, by omega⟩
      rw [if_pos q, if_pos (show (0 : Int32) ≤ z_i (z_ord1 N due had k) by rw [show (0 : Int32) = z_i 0 from rfl, z_ile (by omega) (by omega)]; omega), e3, e1, e2, z_iin (by omega)]
      refine ih (k + 1) _ (by omega) (fun j hj => by rw [z_sn (by omega)]; exact hN j hj) (fun j hj => ?_) (fun j hj => ?_)
      · by_cases e : j = k
        · rw [e]
          exact q
        · exact hO j (by omega)
      · by_cases e : j = k
        · rw [e, z_ss]
        · rw [z_sn (by omega)]
          exact hR j (by omega)
    · rw [if_neg q, if_neg (show ¬ (0 : Int32) ≤ Int32.ofInt (-1) by decide)]
      exact Or.inr ⟨rfl, fun h => q (h k (by omega))⟩
end TO
