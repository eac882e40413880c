/-! the law's machines on lists -/
theorem z_ilt {a b : Nat} (ha : a < 2147483648) (hb : b < 2147483648) : (z_i a < z_i b) ↔ a < b := by
  rw [Int32.lt_iff_toInt_lt, z_it3 ha, z_it3 hb]
  omega
theorem z_ile {a b : Nat} (ha : a < 2147483648) (hb : b < 2147483648) : (z_i a ≤ z_i b) ↔ a ≤ b := by
  rw [Int32.le_iff_toInt_le, z_it3 ha, z_it3 hb]
  omega
theorem z_iin {a : Nat} (ha : a < 2147483648) : (z_i a).toInt.toNat = a := by
  rw [z_it3 ha]
  omega
theorem z_isub (a : Nat) : z_i (a + 1) - Int32.ofInt 1 = z_i a := by
  rw [← z_i1, Int32.add_sub_cancel]
theorem z_idec (a : Nat) : z_i (a + 1) + Int32.ofInt (-1) = z_i a := by
  rw [← z_i1, Int32.add_assoc]
  rw [show Int32.ofInt 1 + Int32.ofInt (-1) = 0 by decide, Int32.add_zero]
noncomputable def z_sl (s : Nat → Int32) : Nat → List Int32
  | 0 => []
  | t + 1 => s t :: z_sl s t
theorem z_sll (s : Nat → Int32) : ∀ t, (z_sl s t).length = t
  | 0 => rfl
  | t + 1 => by rw [z_sl, List.length_cons, z_sll s t]
theorem z_slc (s s' : Nat → Int32) : ∀ t, (∀ j, j < t → s j = s' j) → z_sl s t = z_sl s' t
  | 0, _ => rfl
  | t + 1, h => by rw [z_sl, z_sl, h t (by omega), z_slc s s' t (fun j hj => h j (by omega))]
theorem z_slp (S : v_Sf) (c t : Nat) (v : Int32) : z_sl (z_s S c t v c) (t + 1) = v :: z_sl (S c) t := by
  rw [z_sl, z_ss]
  congr 1
  exact z_slc _ _ t (fun j hj => z_sn (by omega))
noncomputable def z_m (st wi : Nat → Int32) (V : Int32 → Int32) (sz : Int32) : Nat → List Int32 → Int32 → Int32
  | 0, _, _ => Int32.ofInt 0
  | r + 1, l, i =>
    if i < 0 then Int32.ofInt 0 else if sz ≤ i then Int32.ofInt 0 else
    if st i.toInt.toNat = Int32.ofInt 1 then (if l.length < 32 then z_m st wi V sz r (wi i.toInt.toNat :: l) (i + Int32.ofInt 1) else Int32.ofInt 0)
    else if st i.toInt.toNat = Int32.ofInt 2 then (if l.length < 32 then z_m st wi V sz r (V (wi i.toInt.toNat) :: l) (i + Int32.ofInt 1) else Int32.ofInt 0)
    else match l with
      | [] => Int32.ofInt 0
      | x :: l1 =>
        if st i.toInt.toNat = 0 then x
        else if st i.toInt.toNat = Int32.ofInt 3 then z_m st wi V sz r ((Int32.ofInt 1 - x) :: l1) (i + Int32.ofInt 1)
        else if st i.toInt.toNat = Int32.ofInt 4 then (if x = 0 then z_m st wi V sz r (x :: l1) (wi i.toInt.toNat) else z_m st wi V sz r l1 (i + Int32.ofInt 1))
        else if st i.toInt.toNat = Int32.ofInt 5 then (if x = 0 then z_m st wi V sz r l1 (i + Int32.ofInt 1) else z_m st wi V sz r (x :: l1) (wi i.toInt.toNat))
        else match l1 with
          | [] => Int32.ofInt 0
          | y :: l2 => if (st i.toInt.toNat = Int32.ofInt 47 ∨ st i.toInt.toNat = Int32.ofInt 37) ∧ x = 0 then Int32.ofInt 0 else z_m st wi V sz r (f_X1_join (st i.toInt.toNat) y x :: l2) (i + Int32.ofInt 1)
theorem z_m_s (st wi : Nat → Int32) (V : Int32 → Int32) (sz : Int32) (r : Nat) (l : List Int32) (i : Int32) : z_m st wi V sz (r + 1) l i = (
    if i < 0 then Int32.ofInt 0 else if sz ≤ i then Int32.ofInt 0 else
    if st i.toInt.toNat = Int32.ofInt 1 then (if l.length < 32 then z_m st wi V sz r (wi i.toInt.toNat :: l) (i + Int32.ofInt 1) else Int32.ofInt 0)
    else if st i.toInt.toNat = Int32.ofInt 2 then (if l.length < 32 then z_m st wi V sz r (V (wi i.toInt.toNat) :: l) (i + Int32.ofInt 1) else Int32.ofInt 0)
    else match l with
      | [] => Int32.ofInt 0
      | x :: l1 =>
        if st i.toInt.toNat = 0 then x
        else if st i.toInt.toNat = Int32.ofInt 3 then z_m st wi V sz r ((Int32.ofInt 1 - x) :: l1) (i + Int32.ofInt 1)
        else if st i.toInt.toNat = Int32.ofInt 4 then (if x = 0 then z_m st wi V sz r (x :: l1) (wi i.toInt.toNat) else z_m st wi V sz r l1 (i + Int32.ofInt 1))
        else if st i.toInt.toNat = Int32.ofInt 5 then (if x = 0 then z_m st wi V sz r l1 (i + Int32.ofInt 1) else z_m st wi V sz r (x :: l1) (wi i.toInt.toNat))
        else match l1 with
          | [] => Int32.ofInt 0
          | y :: l2 => if (st i.toInt.toNat = Int32.ofInt 47 ∨ st i.toInt.toNat = Int32.ofInt 37) ∧ x = 0 then Int32.ofInt 0 else z_m st wi V sz r (f_X1_join (st i.toInt.toNat) y x :: l2) (i + Int32.ofInt 1)) := by
  rw [z_m.eq_def]
theorem z_run_eq {c : Nat} (hc : z_cd c) (S0 : v_Sf) : ∀ (r k t : Nat) (i : Int32) (S : v_Sf), t ≤ 32 → (∀ a, a ≠ c + 3 → S a = S0 a) →
    (r_X1_run_8 c r k (z_i t) i S).1 = z_m (S0 (c + 1)) (S0 (c + 2)) (fun a => f_X1_valueAt a S0) (S0 c 6) r (z_sl (S (c + 3)) t) i ∧ ∀ a, a ≠ c + 3 → (r_X1_run_8 c r k (z_i t) i S).2 a = S0 a := by
  have hcl := z_cdl hc
  intro r
  induction r with
  | zero =>
    intro k t i S ht hS
    rw [r_X1_run_8, z_m]
    exact ⟨rfl, hS⟩
  | succ r ih =>
    intro k t i S ht hS
    have e0 : S c = S0 c := hS _ (by omega)
    have e1 : S (c + 1) = S0 (c + 1) := hS _ (by omega)
    have e2 : S (c + 2) = S0 (c + 2) := hS _ (by omega)
    have eV : ∀ a, f_X1_valueAt a S = f_X1_valueAt a S0 := by
      intro a
      unfold f_X1_valueAt
      rw [hS 51 (by omega)]
    have fr : ∀ (j : Nat) (v : Int32), ∀ a, a ≠ c + 3 → z_s S (c + 3) j v a = S0 a := by
      intro j v a ha
      rw [← hS a ha]
      funext x
      exact z_sn (by omega)
    have q32 : (z_i t < Int32.ofNat 32) ↔ t < 32 := by
      rw [show Int32.ofNat 32 = z_i 32 by decide]
      exact z_ilt (by omega) (by omega)
    rw [r_X1_run_8, z_m_s, e0, e1, e2]
    by_cases g1 : i < 0
    · simp only [if_pos g1]
      exact ⟨trivial, hS⟩
    simp only [if_neg g1]
    by_cases g2 : S0 c 6 ≤ i
    · simp only [if_pos g2]
      exact ⟨trivial, hS⟩
    simp only [if_neg g2]
    by_cases g3 : S0 (c + 1) i.toInt.toNat = Int32.ofInt 1
    · simp only [if_pos g3, z_sll, q32]
      by_cases h : t < 32
      · simp only [if_pos h, z_i1, z_iin (show t < 2147483648 by omega)]
        have := ih (k + 1) (t + 1) (i + Int32.ofInt 1) _ (by omega) (fr t (S0 (c + 2) i.toInt.toNat))
        rw [z_slp] at this
        exact this
      · simp only [if_neg h]
        exact ⟨trivial, hS⟩
    simp only [if_neg g3]
    by_cases g4 : S0 (c + 1) i.toInt.toNat = Int32.ofInt 2
    · simp only [if_pos g4, if_neg (not_not_intro g4), z_sll, q32, eV]
      by_cases h : t < 32
      · simp only [if_pos h, z_i1, z_iin (show t < 2147483648 by omega)]
        have := ih (k + 1) (t + 1) (i + Int32.ofInt 1) _ (by omega) (fr t (f_X1_valueAt (S0 (c + 2) i.toInt.toNat) S0))
        rw [z_slp] at this
        exact this
      · simp only [if_neg h]
        exact ⟨trivial, hS⟩
    simp only [if_neg g4, if_pos g4]
    rcases t with _ | t
    · simp only [if_pos (show z_i 0 < Int32.ofInt 1 by decide), if_neg (show ¬ Int32.ofInt 1 ≤ z_i 0 by decide), z_sl]
      exact ⟨trivial, hS⟩
    have k1 : ¬ z_i (t + 1) < Int32.ofInt 1 := by
      rw [show Int32.ofInt 1 = z_i 1 from rfl, z_ilt (by omega) (by omega)]
      omega
    have k2 : Int32.ofInt 1 ≤ z_i (t + 1) := by
      rw [show Int32.ofInt 1 = z_i 1 from rfl, z_ile (by omega) (by omega)]
      omega
    simp only [if_neg k1, if_pos k2, z_sl, z_isub, z_iin (show t < 2147483648 by omega)]
    by_cases g5 : S0 (c + 1) i.toInt.toNat = 0
    · simp only [if_pos g5, if_neg (not_not_intro g5)]
      exact ⟨trivial, hS⟩
    simp only [if_neg g5, if_pos g5]
    by_cases g6 : S0 (c + 1) i.toInt.toNat = Int32.ofInt 3
    · simp only [if_pos g6, if_neg (not_not_intro g6)]
      have := ih (k + 1) (t + 1) (i + Int32.ofInt 1) _ (by omega) (fr t (Int32.ofInt 1 - S (c + 3) t))
      rw [z_slp] at this
      exact this
    simp only [if_neg g6, if_pos g6]
    by_cases g7 : S0 (c + 1) i.toInt.toNat = Int32.ofInt 4
    · simp only [if_pos g7]
      by_cases h : S (c + 3) t = 0
      · simp only [if_pos h]
        have := ih (k + 1) (t + 1) (S0 (c + 2) i.toInt.toNat) S (by omega) hS
        rw [z_sl] at this
        exact this
      · simp only [if_neg h]
        exact ih (k + 1) t (i + Int32.ofInt 1) S (by omega) hS
    simp only [if_neg g7]
    by_cases g8 : S0 (c + 1) i.toInt.toNat = Int32.ofInt 5
    · simp only [if_pos g8, if_neg (not_not_intro g8)]
      by_cases h : S (c + 3) t = 0
      · simp only [if_pos h]
        exact ih (k + 1) t (i + Int32.ofInt 1) S (by omega) hS
      · simp only [if_neg h]
        have := ih (k + 1) (t + 1) (S0 (c + 2) i.toInt.toNat) S (by omega) hS
        rw [z_sl] at this
        exact this
    simp only [if_neg g8, if_pos g8]
    rcases t with _ | t
    · simp only [if_pos (show z_i (0 + 1) < Int32.ofInt 2 by decide), z_sl]
      exact ⟨trivial, hS⟩
    have k3 : ¬ z_i (t + 1 + 1) < Int32.ofInt 2 := by
      rw [show Int32.ofInt 2 = z_i 2 from rfl, z_ilt (by omega) (by omega)]
      omega
    simp only [if_neg k3, z_sl, z_idec, z_isub, z_iin (show t + 1 < 2147483648 by omega), z_iin (show t < 2147483648 by omega)]
    have go : ∀ v, (r_X1_run_8 c r (k + 1) (z_i (t + 1)) (i + Int32.ofInt 1) (z_s S (c + 3) t v)).1 = z_m (S0 (c + 1)) (S0 (c + 2)) (fun a => f_X1_valueAt a S0) (S0 c 6) r (v :: z_sl (S (c + 3)) t) (i + Int32.ofInt 1) ∧ ∀ a, a ≠ c + 3 → (r_X1_run_8 c r (k + 1) (z_i (t + 1)) (i + Int32.ofInt 1) (z_s S (c + 3) t v)).2 a = S0 a := by
      intro v
      have := ih (k + 1) (t + 1) (i + Int32.ofInt 1) _ (by omega) (fr t v)
      rw [z_slp] at this
      exact this
    by_cases g9 : S0 (c + 1) i.toInt.toNat = Int32.ofInt 47
    · simp only [if_pos g9]
      by_cases h : S (c + 3) (t + 1) = 0
      · simp only [if_neg (not_not_intro h), if_pos (show (S0 (c + 1) i.toInt.toNat = Int32.ofInt 47 ∨ S0 (c + 1) i.toInt.toNat = Int32.ofInt 37) ∧ S (c + 3) (t + 1) = 0 from ⟨Or.inl g9, h⟩)]
        exact ⟨trivial, hS⟩
      · simp only [if_pos h, if_neg (show ¬ ((S0 (c + 1) i.toInt.toNat = Int32.ofInt 47 ∨ S0 (c + 1) i.toInt.toNat = Int32.ofInt 37) ∧ S (c + 3) (t + 1) = 0) from fun q => h q.2)]
        exact go _
    simp only [if_neg g9]
    by_cases g10 : S0 (c + 1) i.toInt.toNat = Int32.ofInt 37
    · simp only [if_neg (not_not_intro g10)]
      by_cases h : S (c + 3) (t + 1) = 0
      · simp only [if_neg (not_not_intro h), if_pos (show (S0 (c + 1) i.toInt.toNat = Int32.ofInt 47 ∨ S0 (c + 1) i.toInt.toNat = Int32.ofInt 37) ∧ S (c + 3) (t + 1) = 0 from ⟨Or.inr g10, h⟩)]
        exact ⟨trivial, hS⟩
      · simp only [if_pos h, if_neg (show ¬ ((S0 (c + 1) i.toInt.toNat = Int32.ofInt 47 ∨ S0 (c + 1) i.toInt.toNat = Int32.ofInt 37) ∧ S (c + 3) (t + 1) = 0) from fun q => h q.2)]
        exact go _
    simp only [if_pos g10, if_neg (show ¬ ((S0 (c + 1) i.toInt.toNat = Int32.ofInt 47 ∨ S0 (c + 1) i.toInt.toNat = Int32.ofInt 37) ∧ S (c + 3) (t + 1) = 0) from fun q => q.1.elim g9 g10)]
    exact go _
