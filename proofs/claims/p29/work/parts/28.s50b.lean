/-! escaped: the words of both sides -/
theorem z_x3 (k : Nat) : Int32.ofInt 3 * z_i k = z_i (3 * k) ∧ Int32.ofInt 3 * z_i k + Int32.ofInt 1 = z_i (3 * k + 1) ∧ Int32.ofInt 3 * z_i k + Int32.ofInt 2 = z_i (3 * k + 2) := by
  have e : Int32.ofInt 3 * z_i k = z_i (3 * k) := z_imul 3 k
  refine ⟨e, ?_, ?_⟩
  · rw [e]
    exact z_i1 (3 * k)
  · rw [e]
    exact z_iadd (3 * k) 2
theorem z_oim (a b : Int) : Int32.ofInt a * Int32.ofInt b = Int32.ofInt (a * b) := (Int32.ofInt_mul a b).symm
noncomputable def z_sm (a : Int) : Prop := -1000000 ≤ a ∧ a ≤ 1000000
theorem z_hgh {a b : Int} (ha : z_sm a) (hb : z_sm b) : f_X12_higher (Int32.ofInt a) (Int32.ofInt b) = Int32.ofInt (z_zmx a b) := by
  obtain ⟨a1, a2⟩ := ha
  obtain ⟨b1, b2⟩ := hb
  unfold f_X12_higher z_zmx
  by_cases q : a ≤ b
  · rw [if_pos q, if_pos (by rw [z_leI2, q_ofr (by omega) (by omega), q_ofr (by omega) (by omega)]; exact q)]
  · rw [if_neg q, if_neg (by rw [z_leI2, q_ofr (by omega) (by omega), q_ofr (by omega) (by omega)]; exact q)]
theorem z_lwr {a b : Int} (ha : z_sm a) (hb : z_sm b) : f_X12_lower (Int32.ofInt a) (Int32.ofInt b) = Int32.ofInt (-(z_zmx (-a) (-b))) := by
  obtain ⟨a1, a2⟩ := ha
  obtain ⟨b1, b2⟩ := hb
  unfold f_X12_lower z_zmx
  by_cases q : b ≤ a
  · rw [if_pos (show -a ≤ -b by omega), if_pos (by rw [z_leI2, q_ofr (by omega) (by omega), q_ofr (by omega) (by omega)]; exact q), Int.neg_neg]
  · rw [if_neg (show ¬ -a ≤ -b by omega), if_neg (by rw [z_leI2, q_ofr (by omega) (by omega), q_ofr (by omega) (by omega)]; exact q), Int.neg_neg]
theorem z_mxI {a b : Int} (ha : z_sm a) (hb : z_sm b) : z_max (Int32.ofInt a) (Int32.ofInt b) = Int32.ofInt (z_zmx a b) := by
  obtain ⟨a1, a2⟩ := ha
  obtain ⟨b1, b2⟩ := hb
  unfold z_max z_zmx
  by_cases q : a < b
  · rw [if_pos (show a ≤ b by omega), if_pos (by rw [z_ltI2, q_ofr (by omega) (by omega), q_ofr (by omega) (by omega)]; exact q)]
  · rw [if_neg (show ¬ Int32.ofInt a < Int32.ofInt b by rw [z_ltI2, q_ofr (by omega) (by omega), q_ofr (by omega) (by omega)]; exact q)]
    by_cases e : a ≤ b
    · rw [if_pos e, show a = b by omega]
    · rw [if_neg e]
theorem z_mnI {a b : Int} (ha : z_sm a) (hb : z_sm b) : z_min (Int32.ofInt a) (Int32.ofInt b) = Int32.ofInt (-(z_zmx (-a) (-b))) := by
  obtain ⟨a1, a2⟩ := ha
  obtain ⟨b1, b2⟩ := hb
  unfold z_min z_zmx
  by_cases q : b < a
  · rw [if_pos (show -a ≤ -b by omega), if_pos (by rw [z_ltI2, q_ofr (by omega) (by omega), q_ofr (by omega) (by omega)]; exact q), Int.neg_neg]
  · rw [if_neg (show ¬ Int32.ofInt b < Int32.ofInt a by rw [z_ltI2, q_ofr (by omega) (by omega), q_ofr (by omega) (by omega)]; exact q)]
    by_cases e : -a ≤ -b
    · rw [if_pos e, Int.neg_neg, show a = b by omega]
    · rw [if_neg e, Int.neg_neg]
theorem z_absN {a b : Nat} (ha : a ≤ 255) (hb : b ≤ 255) : z_abs (z_i a - z_i b) = z_i (if b ≤ a then a - b else b - a) := by
  have e : z_i a - z_i b = Int32.ofInt ((a : Int) - b) := z_ois a b
  unfold z_abs
  rw [e]
  by_cases q : b ≤ a
  · rw [if_pos (show (0 : Int32) ≤ Int32.ofInt ((a : Int) - b) by rw [z_leI2, q_ofr (by omega) (by omega), show (0 : Int32).toInt = 0 from rfl]; omega), if_pos q]
    exact congrArg Int32.ofInt (by omega)
  · rw [if_neg (show ¬ (0 : Int32) ≤ Int32.ofInt ((a : Int) - b) by rw [z_leI2, q_ofr (by omega) (by omega), show (0 : Int32).toInt = 0 from rfl]; omega), if_neg q]
    refine (z_ois 0 ((a : Int) - b)).trans (congrArg Int32.ofInt ?_)
    omega
theorem z_abu (v a b : Nat) : z_ab (((v * a : Nat) : Int) - ((v * b : Nat) : Int)) = ((v * (if b ≤ a then a - b else b - a) : Nat) : Int) := by
  have p := z_abp (((v * a : Nat) : Int) - ((v * b : Nat) : Int))
  by_cases q : b ≤ a
  · have h := Nat.mul_le_mul_left v q
    rw [if_pos q, Nat.mul_sub]
    omega
  · have h := Nat.mul_le_mul_left v (show a ≤ b by omega)
    rw [if_neg q, Nat.mul_sub]
    omega
/-- what the tape says, seen by seen -/
noncomputable def z_Pe (β : Nat → Nat) (i : Nat) : Prop := β (3 * i + 2) ≤ 250 ∧ β (3 * i + 1) ≤ β (3 * i + 2) ∧ (i = 0 ∨ β (3 * (i - 1)) < β (3 * i))
noncomputable def z_eu (β : Nat → Nat) (v : Nat) : Nat → Int := fun i => ((v * β (3 * i) : Nat) : Int)
noncomputable def z_el (β : Nat → Nat) : Nat → Int := fun i => (β (3 * i + 1) : Int)
noncomputable def z_eh (β : Nat → Nat) : Nat → Int := fun i => (β (3 * i + 2) : Int)
section EW
variable {n v : Nat} {β : Nat → Nat} {S : v_Sf}
theorem z_std (h8 : n ≤ 8) (hb : ∀ j, β j ≤ 255) (hβ : ∀ j, j < 3 * n → f_X8_at (z_i j) S = z_i (β j)) (x1 : Int32) : ∀ (r k : Nat) (x2 : Int32), k + r = n → (x2 = if k = 0 then Int32.ofInt (-1) else z_i (β (3 * (k - 1)))) → (r_X11_sightingsStand_4 x1 S r k x2 = Int32.ofInt 1 ∧ ∀ i, k ≤ i → i < n → z_Pe β i) ∨ (r_X11_sightingsStand_4 x1 S r k x2 = Int32.ofInt 0 ∧ ¬ ∀ i, k ≤ i → i < n → z_Pe β i) := by
  intro r
  induction r with
  | zero =>
    intro k x2 hk _
    exact Or.inl ⟨by rw [r_X11_sightingsStand_4], fun i h1 h2 => by omega⟩
  | succ r ih =>
    intro k x2 hk hx
    have b0 := hb (3 * k)
    have b1 := hb (3 * k + 1)
    have b2 := hb (3 * k + 2)
    rw [r_X11_sightingsStand_4, (z_x3 k).2.2, (z_x3 k).2.1, (z_x3 k).1, hβ (3 * k) (by omega), hβ (3 * k + 1) (by omega), hβ (3 * k + 2) (by omega)]
    have c1 : (z_i (β (3 * k)) ≤ x2) ↔ ¬ (k = 0 ∨ β (3 * (k - 1)) < β (3 * k)) := by
      rw [hx]
      by_cases e : k = 0
      · rw [if_pos e, z_leI2, z_it3 (by omega), show (Int32.ofInt (-1)).toInt = -1 from rfl]
        omega
      · have b3 := hb (3 * (k - 1))
        rw [if_neg e, z_ile (by omega) (by omega)]
        omega
    by_cases d1 : z_i (β (3 * k)) ≤ x2
    · rw [if_pos d1]
      exact Or.inr ⟨rfl, fun h => c1.mp d1 (h k (Nat.le_refl k) (by omega)).2.2⟩
    · rw [if_neg d1]
      by_cases d2 : z_i (β (3 * k + 2)) < z_i (β (3 * k + 1))
      · rw [if_pos d2]
        rw [z_ilt (by omega) (by omega)] at d2
        exact Or.inr ⟨rfl, fun h => by have := (h k (Nat.le_refl k) (by omega)).2.1; omega⟩
      · rw [if_neg d2]
        rw [z_ilt (by omega) (by omega)] at d2
        by_cases d3 : z_i (β (3 * k + 2)) ≤ Int32.ofInt 250
        · rw [if_pos d3]
          rw [show Int32.ofInt 250 = z_i 250 from rfl, z_ile (by omega) (by omega)] at d3
          have P : z_Pe β k := ⟨d3, by omega, Classical.byContradiction (fun m => d1 (c1.mpr m))⟩
          rcases ih (k + 1) (z_i (β (3 * k))) (by omega) (by rw [if_neg (by omega)]; rfl) with ⟨a, b⟩ | ⟨a, b⟩
          · refine Or.inl ⟨a, fun i h1 h2 => ?_⟩
            by_cases e : i = k
            · rw [e]
              exact P
            · exact b i (by omega) h2
          · exact Or.inr ⟨a, fun h => b (fun i h1 h2 => h i (by omega) h2)⟩
        · rw [if_neg d3]
          rw [show Int32.ofInt 250 = z_i 250 from rfl, z_ile (by omega) (by omega)] at d3
          exact Or.inr ⟨rfl, fun h => d3 (h k (Nat.le_refl k) (by omega)).1⟩
theorem z_agc {i j : Nat} (hv : v ≤ 99) (hb : ∀ j, β j ≤ 255) : (z_i (β (3 * i + 1)) - z_i (β (3 * j + 2)) ≤ z_i v * z_abs (z_i (β (3 * i)) - z_i (β (3 * j)))) ↔ z_el β i - z_eh β j ≤ z_ab (z_eu β v i - z_eu β v j) := by
  have a1 := hb (3 * i + 1)
  have a2 := hb (3 * j + 2)
  have a3 := hb (3 * i)
  have a4 := hb (3 * j)
  unfold z_el z_eh z_eu
  rw [z_absN a3 a4, z_imul, z_abu, show z_i (β (3 * i + 1)) - z_i (β (3 * j + 2)) = Int32.ofInt ((β (3 * i + 1) : Int) - (β (3 * j + 2) : Int)) from z_ois _ _]
  have hd : (if β (3 * j) ≤ β (3 * i) then β (3 * i) - β (3 * j) else β (3 * j) - β (3 * i)) ≤ 255 := by
    split <;> omega
  have hm := Nat.mul_le_mul hv hd
  rw [z_leI2, q_ofr (by omega) (by omega), z_it3 (by omega)]
theorem z_ag10 (h8 : n ≤ 8) (hv : v ≤ 99) (hb : ∀ j, β j ≤ 255) (hβ : ∀ j, j < 3 * n → f_X8_at (z_i j) S = z_i (β j)) (x1 : Int32) (κ : Int32) {i : Nat} (hi : i < n) : ∀ (r k : Nat), k + r = n → (r_X11_sightingsAgree_10 x1 (z_i v) S κ i r k = κ ∧ ∀ j, k ≤ j → j < n → z_el β i - z_eh β j ≤ z_ab (z_eu β v i - z_eu β v j)) ∨ (r_X11_sightingsAgree_10 x1 (z_i v) S κ i r k = Int32.ofInt 0 ∧ ¬ ∀ j, k ≤ j → j < n → z_el β i - z_eh β j ≤ z_ab (z_eu β v i - z_eu β v j)) := by
  intro r
  induction r with
  | zero =>
    intro k hk
    exact Or.inl ⟨by rw [r_X11_sightingsAgree_10], fun j h1 h2 => by omega⟩
  | succ r ih =>
    intro k hk
    rw [r_X11_sightingsAgree_10, (z_x3 k).2.2, (z_x3 i).2.1, (z_x3 i).1, (z_x3 k).1, hβ (3 * i) (by omega), hβ (3 * k) (by omega), hβ (3 * i + 1) (by omega), hβ (3 * k + 2) (by omega)]
    have c := z_agc (i := i) (j := k) hv hb
    by_cases d : z_i (β (3 * i + 1)) - z_i (β (3 * k + 2)) ≤ z_i v * z_abs (z_i (β (3 * i)) - z_i (β (3 * k)))
    · rw [if_pos d]
      rcases ih (k + 1) (by omega) with ⟨a, b⟩ | ⟨a, b⟩
      · refine Or.inl ⟨a, fun j h1 h2 => ?_⟩
        by_cases e : j = k
        · rw [e]
          exact c.mp d
        · exact b j (by omega) h2
      · exact Or.inr ⟨a, fun h => b (fun j h1 h2 => h j (by omega) h2)⟩
    · rw [if_neg d]
      exact Or.inr ⟨rfl, fun h => d (c.mpr (h k (Nat.le_refl k) (by omega)))⟩
theorem z_ag2 (h8 : n ≤ 8) (hv : v ≤ 99) (hb : ∀ j, β j ≤ 255) (hβ : ∀ j, j < 3 * n → f_X8_at (z_i j) S = z_i (β j)) : ∀ (r k : Nat), k + r = n → (r_X11_sightingsAgree_2 (z_i n) (z_i v) S r k = Int32.ofInt 1 ∧ ∀ i j, k ≤ i → i < n → j < n → z_el β i - z_eh β j ≤ z_ab (z_eu β v i - z_eu β v j)) ∨ (r_X11_sightingsAgree_2 (z_i n) (z_i v) S r k = Int32.ofInt 0 ∧ ¬ ∀ i j, k ≤ i → i < n → j < n → z_el β i - z_eh β j ≤ z_ab (z_eu β v i - z_eu β v j)) := by
  intro r
  induction r with
  | zero =>
    intro k hk
    exact Or.inl ⟨by rw [r_X11_sightingsAgree_2], fun i j h1 h2 => by omega⟩
  | succ r ih =>
    intro k hk
    rw [r_X11_sightingsAgree_2, z_iin (by omega), Nat.sub_zero]
    rcases z_ag10 h8 hv hb hβ (z_i n) (r_X11_sightingsAgree_2 (z_i n) (z_i v) S r (k + 1)) (i := k) (by omega) n 0 (by omega) with ⟨a, b⟩ | ⟨a, b⟩
    · rw [a]
      rcases ih (k + 1) (by omega) with ⟨a2, b2⟩ | ⟨a2, b2⟩
      · refine Or.inl ⟨a2, fun i j h1 h2 h3 => ?_⟩
        by_cases e : i = k
        · rw [e]
          exact b j (Nat.zero_le j) h3
        · exact b2 i j (by omega) h2 h3
      · exact Or.inr ⟨a2, fun h => b2 (fun i j h1 h2 h3 => h i j (by omega) h2 h3)⟩
    · rw [a]
      exact Or.inr ⟨rfl, fun h => b (fun j _ h3 => h k j (Nat.le_refl k) (by omega) h3)⟩
end EW
