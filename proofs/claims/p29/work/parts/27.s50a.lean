/-! escaped: where it may be -/
noncomputable def z_zmx (a b : Int) : Int := if a ≤ b then b else a
noncomputable def z_ab (x : Int) : Int := if 0 ≤ x then x else -x
theorem z_zmx_le {a b z : Int} : z_zmx a b ≤ z ↔ a ≤ z ∧ b ≤ z := by
  unfold z_zmx
  split <;> omega
theorem z_abp (x : Int) : 0 ≤ x ∧ z_ab x = x ∨ x < 0 ∧ z_ab x = -x := by
  unfold z_ab
  split <;> omega
/-- the lowest, reckoned from a to e, seen from k -/
noncomputable def z_Lw (u lo : Nat → Int) (a e k : Nat) (c : Int) : Prop := ∀ z, c ≤ z ↔ ∀ i, a ≤ i → i ≤ e → lo i - z_ab (u i - u k) ≤ z
noncomputable def z_mon (n : Nat) (u : Nat → Int) : Prop := ∀ i j, i ≤ j → j < n → u i ≤ u j
section EP
variable {n : Nat} {u lo hi : Nat → Int}
theorem z_Lw_1 (k : Nat) : z_Lw u lo k k k (lo k) := by
  intro z
  constructor
  · intro h i h1 h2
    obtain rfl : i = k := by omega
    have := z_abp (u i - u i)
    omega
  · intro h
    have h1 := h k (Nat.le_refl k) (Nat.le_refl k)
    have := z_abp (u k - u k)
    omega
theorem z_Lw_a (hm : z_mon n u) {k : Nat} {c : Int} (hk : k + 1 < n) (h : z_Lw u lo 0 k k c) : z_Lw u lo 0 (k + 1) (k + 1) (z_zmx (lo (k + 1)) (c - (u (k + 1) - u k))) := by
  intro z
  have m1 := hm k (k + 1) (by omega) hk
  have q := h (z + (u (k + 1) - u k))
  rw [z_zmx_le]
  constructor
  · rintro ⟨h1, h2⟩ i _ hi
    by_cases e : i = k + 1
    · rw [e]
      have := z_abp (u (k + 1) - u (k + 1))
      omega
    · have h3 := q.mp (by omega) i (Nat.zero_le i) (by omega)
      have m2 := hm i k (by omega) (by omega)
      have a1 := z_abp (u i - u k)
      have a2 := z_abp (u i - u (k + 1))
      omega
  · intro h1
    have h2 := h1 (k + 1) (Nat.zero_le _) (Nat.le_refl _)
    have a0 := z_abp (u (k + 1) - u (k + 1))
    have h3 := q.mpr (fun i _ hi => by
      have h4 := h1 i (Nat.zero_le i) (by omega)
      have m2 := hm i k hi (by omega)
      have a1 := z_abp (u i - u k)
      have a2 := z_abp (u i - u (k + 1))
      omega)
    omega
theorem z_Lw_b (hm : z_mon n u) {k e : Nat} {c : Int} (he : e < n) (hk : k < e) (h : z_Lw u lo (k + 1) e (k + 1) c) : z_Lw u lo k e k (z_zmx (lo k) (c - (u (k + 1) - u k))) := by
  intro z
  have m1 := hm k (k + 1) (by omega) (by omega)
  have q := h (z + (u (k + 1) - u k))
  rw [z_zmx_le]
  constructor
  · rintro ⟨h1, h2⟩ i hi hie
    by_cases e : i = k
    · rw [e]
      have := z_abp (u k - u k)
      omega
    · have h3 := q.mp (by omega) i (by omega) hie
      have m2 := hm (k + 1) i (by omega) (by omega)
      have a1 := z_abp (u i - u k)
      have a2 := z_abp (u i - u (k + 1))
      omega
  · intro h1
    have h2 := h1 k (Nat.le_refl _) (by omega)
    have a0 := z_abp (u k - u k)
    have h3 := q.mpr (fun i hi hie => by
      have h4 := h1 i (by omega) hie
      have m2 := hm (k + 1) i hi (by omega)
      have a1 := z_abp (u i - u k)
      have a2 := z_abp (u i - u (k + 1))
      omega)
    omega
theorem z_Lw_r {a e k : Nat} {c M : Int} (h : z_Lw u lo a e k c) (h1 : a ≤ k) (h2 : k ≤ e) (hM : ∀ i, lo i ≤ M) : lo k ≤ c ∧ c ≤ M := by
  have a0 := z_abp (u k - u k)
  have h3 := (h c).mp (Int.le_refl c) k h1 h2
  refine ⟨by omega, (h M).mpr (fun i _ _ => ?_)⟩
  have := hM i
  have := z_abp (u i - u k)
  omega
/-- they can be reached from one another -/
theorem z_agk {k : Nat} {A H : Int} (hA : z_Lw u lo 0 k k A) (hH : z_Lw u (fun i => -hi i) 0 k k (-H)) : A ≤ H ↔ ∀ i j, i ≤ k → j ≤ k → lo i - hi j ≤ z_ab (u i - u k) + z_ab (u j - u k) := by
  constructor
  · intro h i j h1 h2
    have a1 := (hA A).mp (Int.le_refl A) i (Nat.zero_le i) h1
    have a2 : -hi j - z_ab (u j - u k) ≤ -H := (hH (-H)).mp (Int.le_refl _) j (Nat.zero_le j) h2
    omega
  · intro h
    refine (hA H).mpr (fun i _ hi' => ?_)
    have a3 := (hH (z_ab (u i - u k) - lo i)).mpr (fun j _ hj => by
      show -hi j - z_ab (u j - u k) ≤ z_ab (u i - u k) - lo i
      have := h i j hi' hj
      omega)
    omega
theorem z_ag_all : (∀ k, k < n → ∀ i j, i ≤ k → j ≤ k → lo i - hi j ≤ z_ab (u i - u k) + z_ab (u j - u k)) ↔ ∀ i j, i < n → j < n → lo i - hi j ≤ z_ab (u i - u j) := by
  constructor
  · intro h i j h1 h2
    have a0 := z_abp (u i - u j)
    have a1 := z_abp (u j - u i)
    have a2 := z_abp (u i - u i)
    have a3 := z_abp (u j - u j)
    by_cases e : i ≤ j
    · have := h j h2 i j e (Nat.le_refl j)
      omega
    · have := h i h1 i j (Nat.le_refl i) (by omega)
      omega
  · intro h k hk i j h1 h2
    have := h i j (by omega) (by omega)
    have a0 := z_abp (u i - u j)
    have a1 := z_abp (u i - u k)
    have a2 := z_abp (u j - u k)
    omega
/-- the lowest at a told time -/
noncomputable def z_Lo (b : Int) (u lo : Nat → Int) (U : Int) (P : Nat → Prop) (c : Int) : Prop := ∀ z, c ≤ z ↔ b ≤ z ∧ ∀ i, P i → lo i - z_ab (u i - U) ≤ z
theorem z_Lo_u {b U : Int} {P P' : Nat → Prop} {c c' : Int} (hP : ∀ i, P i ↔ P' i) (h : z_Lo b u lo U P c) (h' : z_Lo b u lo U P' c') : c = c' := by
  have h1 := (h c).mp (Int.le_refl c)
  have h2 := (h' c').mp (Int.le_refl c')
  have h3 := (h' c).mpr ⟨h1.1, fun i hi => h1.2 i ((hP i).mpr hi)⟩
  have h4 := (h c').mpr ⟨h2.1, fun i hi => h2.2 i ((hP i).mp hi)⟩
  omega
theorem z_Lo_c {b U : Int} {P P' : Nat → Prop} {c : Int} (hP : ∀ i, P i ↔ P' i) (h : z_Lo b u lo U P c) : z_Lo b u lo U P' c := by
  intro z
  rw [h z]
  exact ⟨fun m => ⟨m.1, fun i hi => m.2 i ((hP i).mpr hi)⟩, fun m => ⟨m.1, fun i hi => m.2 i ((hP i).mp hi)⟩⟩
theorem z_Lo_0 (b U : Int) : z_Lo b u lo U (fun _ => False) b := by
  intro z
  exact ⟨fun h => ⟨h, fun i m => m.elim⟩, fun h => h.1⟩
theorem z_Lo_1 {b U : Int} {P : Nat → Prop} {c : Int} (h : z_Lo b u lo U P c) (k : Nat) : z_Lo b u lo U (fun i => P i ∨ i = k) (z_zmx c (lo k - z_ab (u k - U))) := by
  intro z
  rw [z_zmx_le, h z]
  constructor
  · rintro ⟨⟨h1, h2⟩, h3⟩
    refine ⟨h1, fun i m => ?_⟩
    rcases m with m | m
    · exact h2 i m
    · rw [m]
      exact h3
  · rintro ⟨h1, h2⟩
    exact ⟨⟨h1, fun i m => h2 i (Or.inl m)⟩, h2 k (Or.inr rfl)⟩
theorem z_Lo_s {b U : Int} {P : Nat → Prop} {a e k : Nat} {c A : Int} (h : z_Lo b u lo U P c) (hA : z_Lw u lo a e k A) (hd : ∀ i, a ≤ i → i ≤ e → z_ab (u i - U) = z_ab (u i - u k) + z_ab (u k - U)) : z_Lo b u lo U (fun i => P i ∨ a ≤ i ∧ i ≤ e) (z_zmx c (A - z_ab (u k - U))) := by
  intro z
  have q := hA (z + z_ab (u k - U))
  rw [z_zmx_le, h z]
  constructor
  · rintro ⟨⟨h1, h2⟩, h3⟩
    refine ⟨h1, fun i m => ?_⟩
    rcases m with m | m
    · exact h2 i m
    · have := q.mp (by omega) i m.1 m.2
      have := hd i m.1 m.2
      omega
  · rintro ⟨h1, h2⟩
    refine ⟨⟨h1, fun i m => h2 i (Or.inl m)⟩, ?_⟩
    have := q.mpr (fun i m1 m2 => by
      have := h2 i (Or.inr ⟨m1, m2⟩)
      have := hd i m1 m2
      omega)
    omega
theorem z_Lo_r {b U : Int} {P : Nat → Prop} {c M : Int} (h : z_Lo b u lo U P c) (hM : ∀ i, lo i ≤ M) (hb : b ≤ M) : b ≤ c ∧ c ≤ M := by
  refine ⟨((h c).mp (Int.le_refl c)).1, (h M).mpr ⟨hb, fun i _ => ?_⟩⟩
  have := hM i
  have := z_abp (u i - U)
  omega
/-- how many have been by then -/
theorem z_upto {t : Nat → Nat} (T : Nat) : ∀ n, (∀ i j, i ≤ j → j < n → t i ≤ t j) → ∃ m, m ≤ n ∧ ∀ i, i < n → (t i ≤ T ↔ i < m) := by
  intro n
  induction n with
  | zero => intro _; exact ⟨0, Nat.le_refl 0, fun i hi => absurd hi (Nat.not_lt_zero i)⟩
  | succ n ih =>
    intro h
    by_cases q : t n ≤ T
    · exact ⟨n + 1, Nat.le_refl _, fun i hi => ⟨fun _ => hi, fun _ => Nat.le_trans (h i n (by omega) (by omega)) q⟩⟩
    · obtain ⟨m, h1, h2⟩ := ih (fun i j a b => h i j a (by omega))
      refine ⟨m, by omega, fun i hi => ?_⟩
      by_cases e : i = n
      · rw [e]
        exact ⟨fun z => absurd z q, fun z => by omega⟩
      · exact h2 i (by omega)
end EP
