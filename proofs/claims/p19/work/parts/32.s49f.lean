/-! housed: rows, their cost, and the class's search -/
noncomputable def z_sum (P : Nat → Prop) : Nat → Nat
  | 0 => 0
  | m + 1 => z_sum P m + @ite _ (P m) (Classical.propDecidable _) 1 0
theorem z_sum_c {P Q : Nat → Prop} : ∀ m, (∀ j, j < m → (P j ↔ Q j)) → z_sum P m = z_sum Q m := by
  intro m
  induction m with
  | zero => intro _; rfl
  | succ m ih =>
    intro h
    rw [z_sum, z_sum, ih (fun j hj => h j (by omega))]
    by_cases p : P m
    · rw [if_pos p, if_pos ((h m (by omega)).mp p)]
    · rw [if_neg p, if_neg (fun q => p ((h m (by omega)).mpr q))]
theorem z_sum_hi {P : Nat → Prop} {i : Nat} (h : ∀ j, i ≤ j → ¬ P j) : ∀ d, z_sum P (i + d) = z_sum P i := by
  intro d
  induction d with
  | zero => rfl
  | succ d ih => rw [← Nat.add_assoc, z_sum, ih, if_neg (h _ (by omega)), Nat.add_zero]
theorem z_sum_le (P : Nat → Prop) : ∀ m, z_sum P m ≤ m := by
  intro m
  induction m with
  | zero => exact Nat.le_refl 0
  | succ m ih =>
    rw [z_sum]
    split <;> omega
theorem z_cn_sum {Z : Nat} {P : Nat → Prop} : ∀ m, (∀ j, j < m → (Z.testBit j = true ↔ P j)) → z_cn Z m = z_sum P m := by
  intro m
  induction m with
  | zero => intro _; rfl
  | succ m ih =>
    intro h
    rw [z_cn, z_sum, ih (fun j hj => h j (by omega))]
    by_cases p : P m
    · rw [if_pos p, if_pos ((h m (by omega)).mpr p)]
    · rw [if_neg p, if_neg (fun q => p ((h m (by omega)).mp q))]
/-- how many are there -/
noncomputable def z_hk (x : Nat → Nat) (k i : Nat) : Nat := z_sum (fun j => x j = k) i
/-- with how many ahead of it one quarrels there -/
noncomputable def z_hp (od : Nat → Nat → Prop) (x : Nat → Nat) (a : Nat) : Nat := z_sum (fun b => x b = x a ∧ od a b) a
noncomputable def z_hsc (od : Nat → Nat → Prop) (x : Nat → Nat) : Nat → Int
  | 0 => 0
  | i + 1 => z_hsc od x i + (z_hp od x i : Int)
noncomputable def z_rm (K : Nat) (room : Nat → Int) (x : Nat → Nat) (i : Nat) : Prop := (∀ j, j < i → x j < K) ∧ ∀ m, m < K → (z_hk x m i : Int) ≤ room m
theorem z_hk_c {x y : Nat → Nat} {k i : Nat} (h : ∀ j, j < i → x j = y j) : z_hk x k i = z_hk y k i := z_sum_c i (fun j hj => by rw [h j hj])
theorem z_hc_c {od : Nat → Nat → Prop} {x y : Nat → Nat} : ∀ i, (∀ j, j < i → x j = y j) → z_hsc od x i = z_hsc od y i := by
  intro i
  induction i with
  | zero => intro _; rfl
  | succ i ih =>
    intro h
    rw [z_hsc, z_hsc, ih (fun j hj => h j (by omega))]
    have e : z_hp od x i = z_hp od y i := z_sum_c i (fun b hb => by rw [h b (by omega), h i (by omega)])
    rw [e]
theorem z_hku {x : Nat → Nat} {i k m : Nat} : z_hk (z_u5 x i k) m (i + 1) = z_hk x m i + if k = m then 1 else 0 := by
  have e : z_sum (fun j => z_u5 x i k j = m) i = z_sum (fun j => x j = m) i := z_sum_c i (fun j hj => by rw [z_u5n (by omega)])
  unfold z_hk
  rw [z_sum, e]
  by_cases q : k = m
  · rw [if_pos (show z_u5 x i k i = m by rw [z_u5s]; exact q), if_pos q]
  · rw [if_neg (show ¬ z_u5 x i k i = m by rw [z_u5s]; exact q), if_neg q]
theorem z_gp_h {n K : Nat} {od : Nat → Nat → Prop} {room : Nat → Int} : z_gp n (z_rm K room) (z_hsc od) := by
  refine ⟨fun x y i _ h v => ⟨fun j hj => by rw [← h j hj]; exact v.1 j hj, fun m hm => by rw [← z_hk_c h]; exact v.2 m hm⟩, fun x y i _ h => z_hc_c i h, fun x i _ v => ⟨fun j hj => v.1 j (by omega), fun m hm => ?_⟩, fun x i _ => ?_⟩
  · have := v.2 m hm
    unfold z_hk at this ⊢
    rw [z_sum] at this
    split at this <;> omega
  · rw [z_hsc]
    omega
theorem z_rmu {K : Nat} {room : Nat → Int} {x : Nat → Nat} {i k : Nat} (v : z_rm K room x i) (hk : k < K) : z_rm K room (z_u5 x i k) (i + 1) ↔ (z_hk x k i : Int) < room k := by
  constructor
  · intro w
    have := w.2 k hk
    rw [z_hku, if_pos rfl] at this
    push_cast at this
    omega
  · intro h
    refine ⟨fun j hj => ?_, fun m hm => ?_⟩
    · by_cases q : j = i
      · rw [q, z_u5s]
        exact hk
      · rw [z_u5n q]
        exact v.1 j (by omega)
    · rw [z_hku]
      by_cases q : k = m
      · rw [if_pos q, ← q]
        push_cast
        omega
      · rw [if_neg q, Nat.add_zero]
        exact v.2 m hm
theorem z_hp_b (od : Nat → Nat → Prop) (x : Nat → Nat) (a : Nat) : z_hp od x a ≤ a := z_sum_le _ a
theorem z_hc_b (od : Nat → Nat → Prop) (x : Nat → Nat) : ∀ i : Nat, i ≤ 6 → 0 ≤ z_hsc od x i ∧ z_hsc od x i ≤ 6 * (i : Int) := by
  intro i
  induction i with
  | zero => intro _; exact ⟨Int.le_refl 0, Int.le_refl 0⟩
  | succ i ih =>
    intro h
    have := ih (by omega)
    have := z_hp_b od x i
    rw [z_hsc]
    push_cast
    omega
/-- who is there, as bits -/
noncomputable def z_mhs (x : Nat → Nat) (k : Nat) : Nat → Nat
  | 0 => 0
  | i + 1 => z_mhs x k i ||| (if x i = k then 2 ^ i else 0)
theorem z_mm_t {x : Nat → Nat} {k b : Nat} : ∀ i, (z_mhs x k i).testBit b = true ↔ b < i ∧ x b = k := by
  intro i
  induction i with
  | zero =>
    rw [z_mhs, Nat.zero_testBit]
    exact ⟨fun m => Bool.noConfusion m, fun m => absurd m.1 (Nat.not_lt_zero b)⟩
  | succ i ih =>
    rw [z_mhs, Nat.testBit_or, Bool.or_eq_true, ih]
    by_cases q : x i = k
    · rw [if_pos q, Nat.testBit_two_pow, decide_eq_true_iff]
      constructor
      · rintro (⟨h1, h2⟩ | h)
        · exact ⟨by omega, h2⟩
        · rw [← h]
          exact ⟨by omega, q⟩
      · rintro ⟨h1, h2⟩
        by_cases e : b = i
        · exact Or.inr e.symm
        · exact Or.inl ⟨by omega, h2⟩
    · rw [if_neg q, Nat.zero_testBit]
      constructor
      · rintro (⟨h1, h2⟩ | h)
        · exact ⟨by omega, h2⟩
        · exact Bool.noConfusion h
      · rintro ⟨h1, h2⟩
        by_cases e : b = i
        · rw [e] at h2
          exact absurd h2 q
        · exact Or.inl ⟨by omega, h2⟩
theorem z_mm_lt {x : Nat → Nat} {k : Nat} : ∀ i, i ≤ 8 → z_mhs x k i < 256 := by
  intro i
  induction i with
  | zero => intro _; show 0 < 256; decide
  | succ i ih =>
    intro h
    rw [z_mhs]
    refine Nat.or_lt_two_pow (n := 8) (ih (by omega)) ?_
    split
    · exact Nat.pow_lt_pow_right (by decide) (by omega)
    · decide
theorem z_mm_c {x y : Nat → Nat} {k : Nat} : ∀ i, (∀ j, j < i → x j = y j) → z_mhs x k i = z_mhs y k i := by
  intro i
  induction i with
  | zero => intro _; rfl
  | succ i ih =>
    intro h
    rw [z_mhs, z_mhs, ih (fun j hj => h j (by omega)), h i (by omega)]
theorem z_mmu {x : Nat → Nat} {i k m : Nat} : z_mhs (z_u5 x i k) m (i + 1) = z_mhs x m i ||| (if k = m then 2 ^ i else 0) := by rw [z_mhs, z_u5s, z_mm_c i (fun j hj => z_u5n (by omega))]
theorem z_mm_n {x : Nat → Nat} {k i : Nat} (hi : i ≤ 12) : z_cn (z_mhs x k i) 12 = z_hk x k i := by
  rw [z_cn_sum (P := fun j => j < i ∧ x j = k) 12 (fun j _ => z_mm_t i)]
  have h := z_sum_hi (P := fun j => j < i ∧ x j = k) (i := i) (fun j hj m => by omega) (12 - i)
  rw [show i + (12 - i) = 12 by omega] at h
  rw [h]
  exact z_sum_c i (fun j hj => ⟨fun m => m.2, fun m => ⟨hj, m⟩⟩)
theorem z_ofB {A B : Int32} (h : ∀ i, i < 32 → A.toBitVec.getLsbD i = B.toBitVec.getLsbD i) : A = B := Int32.toBitVec_inj.mp (BitVec.eq_of_getLsbD_eq h)
theorem z_clr {A i : Nat} (hA : A < 256) (hi : i < 8) (hb : A.testBit i = false) : z_i (A ||| 2 ^ i) &&& ((Int32.ofInt 1 <<< (z_i i &&& 31)) ^^^ Int32.ofInt (-1)) = z_i A := by
  refine z_ofB (fun b hb32 => ?_)
  have o1 : (Int32.ofInt 1 <<< (z_i i &&& 31)).toBitVec.getLsbD b = decide (b = i) := z_one32 ⟨i, by omega⟩ ⟨b, hb32⟩
  have m1 : (Int32.ofInt (-1)).toBitVec.getLsbD b = true := z_m1_all ⟨b, hb32⟩
  rw [Int32.toBitVec_and, Int32.toBitVec_xor, BitVec.getLsbD_and, BitVec.getLsbD_xor, o1, m1, z_ibv, z_ibv, BitVec.getLsbD_ofNat, BitVec.getLsbD_ofNat, Nat.testBit_or, Nat.testBit_two_pow]
  by_cases e : b = i
  · rw [e, hb]
    simp
  · have e2 : ¬ i = b := fun m => e m.symm
    simp [e, e2]
noncomputable def z_Bh (n K : Nat) (od : Nat → Nat → Prop) (room : Nat → Int) (S : v_Sf) : Prop := n ≤ 6 ∧ (1 ≤ K ∧ K ≤ 3) ∧ S 76 4 = z_i n ∧ S 76 5 = z_i K ∧ (∀ k, k < K → (S 80 k).toInt = room k) ∧ z_At n (fun a b => a < n ∧ b < n ∧ a ≠ b ∧ od a b) S
noncomputable def z_Ih (n K i : Nat) (x : Nat → Nat) (B : z_Gt) (S U : v_Sf) : Prop := (∀ a j, ¬ (a = 76 ∧ j = 12 ∨ a = 81 ∨ a = 83 ∨ a = 84) → U a j = S a j) ∧ (∀ j, j < i → U 83 j = z_i (x j)) ∧ (∀ k, k < K → U 81 k = z_i (z_mhs x k i)) ∧ U 76 12 = Int32.ofInt B.1 ∧ (B.1 < 1000 → ∀ j, j < n → U 84 j = z_i (B.2 j)) ∧ 0 ≤ B.1 ∧ B.1 ≤ 1000
section LD
variable {n K : Nat} {od : Nat → Nat → Prop} {room : Nat → Int} {S : v_Sf}
theorem z_ldl {φ : Int32 → Int32 → v_Sf → v_Sf} {r i : Nat} (hb : z_Bh n K od room S) (hi : i + (r + 1) = n) {x : Nat → Nat} (v : z_rm K room x i) (hφ : ∀ (y : Nat → Nat) (C : z_Gt) (V : v_Sf), z_rm K room y (i + 1) → z_Ih n K (i + 1) y C S V → z_Ih n K (i + 1) y (z_gf K n (z_rm K room) (z_hsc od) r (i + 1) y C) S (φ (z_i (i + 1)) (Int32.ofInt (z_hsc od y (i + 1))) V)) : ∀ (q k : Nat) (B : z_Gt) (U : v_Sf), k + q = K → z_Ih n K i x B S U → z_Ih n K i x (z_gk (fun k B => z_gf K n (z_rm K room) (z_hsc od) r (i + 1) (z_u5 x i k) B) q k B) S (r_lodgeF_31 φ (z_i i) (Int32.ofInt (z_hsc od x i)) (8 - k) k U) := by
  obtain ⟨h6, hK, h4, h5', hr, hA⟩ := id hb
  have ei : (z_i i).toInt.toNat = i := z_iin (by omega)
  intro q
  induction q with
  | zero =>
    intro k B U hk I
    obtain rfl : k = K := by omega
    obtain ⟨i1, i2, i2', i3, i4, i5, i6⟩ := id I
    rw [show 8 - k = (7 - k) + 1 by omega, r_lodgeF_31, i1 76 5 (by omega), h5', if_pos (by rw [z_ile (by omega) (by omega)]; omega), z_gk]
    exact I
  | succ q ih =>
    intro k B U hk I
    obtain ⟨i1, i2, i2', i3, i4, i5, i6⟩ := id I
    have ek : (z_i k).toInt.toNat = k := z_iin (by omega)
    have hm := z_mm_lt (x := x) (k := k) i (by omega)
    have hcn := z_mm_n (x := x) (k := k) (i := i) (by omega)
    have hkk : z_hk x k i ≤ i := z_sum_le _ i
    have ho := z_rmu v (k := k) (by omega)
    rw [show 8 - k = (7 - k) + 1 by omega, r_lodgeF_31, i1 76 5 (by omega), h5', if_neg (by rw [z_ile (by omega) (by omega)]; omega), if_neg (by rw [show Int32.ofInt 8 = z_i 8 from rfl, z_ile (by omega) (by omega)]; omega), ek, i1 80 k (by omega), i2' k (by omega), z_bcN (by omega), hcn, z_gk, show 7 - k = 8 - (k + 1) by omega]
    by_cases t : (z_hk x k i : Int) < room k
    · have vk : z_rm K room (z_u5 x i k) (i + 1) := ho.mpr t
      obtain ⟨A, a1, a2, a3⟩ := hA i (by omega)
      have hAnd : z_mhs x k i &&& A < 4096 := by
        have : z_mhs x k i &&& A ≤ z_mhs x k i := Nat.and_le_left
        omega
      have hp : z_cn (z_mhs x k i &&& A) 12 = z_hp od (z_u5 x i k) i := by
        rw [z_cn_sum (P := fun j => (j < i ∧ x j = k) ∧ (i < n ∧ j < n ∧ i ≠ j ∧ od i j)) 12 (fun j hj => by rw [Nat.testBit_and, Bool.and_eq_true, z_mm_t i, a3 j hj])]
        have h := z_sum_hi (P := fun j => (j < i ∧ x j = k) ∧ (i < n ∧ j < n ∧ i ≠ j ∧ od i j)) (i := i) (fun j hj m => by omega) (12 - i)
        rw [show i + (12 - i) = 12 by omega] at h
        rw [h]
        exact z_sum_c i (fun j hj => by rw [z_u5n (by omega), z_u5s]; exact ⟨fun m => ⟨m.1.2, m.2.2.2.2⟩, fun m => ⟨⟨hj, m.1⟩, by omega, by omega, by omega, m.2⟩⟩)
      have hpb := z_hp_b od (z_u5 x i k) i
      have ec : Int32.ofInt (z_hsc od x i) + f_J6_bitCount_0f7a4 (z_i (z_mhs x k i) &&& U 79 i) = Int32.ofInt (z_hsc od (z_u5 x i k) (i + 1)) := by
        rw [i1 79 i (by omega), a2, z_iand (by omega) (by omega), z_bcN hAnd, hp, show z_i (z_hp od (z_u5 x i k) i) = Int32.ofInt ((z_hp od (z_u5 x i k) i : Nat) : Int) from rfl, z_oia, z_hsc, z_hc_c (x := z_u5 x i k) (y := x) i (fun j hj => z_u5n (by omega))]
      obtain ⟨e81, e81'⟩ := z_ior8 hm (show i < 8 by omega)
      rw [if_neg (show ¬ S 80 k ≤ z_i (z_hk x k i) by rw [z_leI2, hr k (by omega), z_it3 (by omega)]; omega), ei, ec, e81, show z_i i + Int32.ofInt 1 = z_i (i + 1) from z_i1 i]
      have V1 : z_Ih n K (i + 1) (z_u5 x i k) B S (z_s (z_s U 83 i (z_i k)) 81 k (z_i (z_mhs x k i ||| 2 ^ i))) := by
        refine ⟨fun a j m => ?_, fun j hj => ?_, fun c hc => ?_, ?_, fun m j hj => ?_, i5, i6⟩
        · rw [z_sn (by omega), z_sn (by omega)]
          exact i1 a j m
        · by_cases e : j = i
          · rw [e, z_u5s, z_sn (by omega), z_ss]
          · rw [z_u5n e, z_sn (by omega), z_sn (by omega)]
            exact i2 j (by omega)
        · rw [z_mmu]
          by_cases e : k = c
          · rw [← e, z_ss, if_pos rfl]
          · rw [z_sn (by omega), z_sn (by omega), if_neg e, Nat.or_zero]
            exact i2' c hc
        · rw [z_sn (by omega), z_sn (by omega)]
          exact i3
        · rw [z_sn (by omega), z_sn (by omega)]
          exact i4 m j hj
      obtain ⟨j1, j2, j2', j3, j4, j5, j6⟩ := hφ _ _ _ vk V1
      have jk := j2' k (by omega)
      rw [z_mmu, if_pos rfl] at jk
      have nb : (z_mhs x k i).testBit i = false := by
        have : ¬ (z_mhs x k i).testBit i = true := fun m => by have := (z_mm_t i).mp m; omega
        simpa using this
      rw [jk, z_clr hm (by omega) nb]
      refine ih (k + 1) _ _ (by omega) ⟨fun a j m => ?_, fun j hj => ?_, fun c hc => ?_, ?_, fun m j hj => ?_, j5, j6⟩
      · rw [z_sn (by omega)]
        exact j1 a j m
      · have e := j2 j (by omega)
        rw [z_u5n (by omega)] at e
        rw [z_sn (by omega)]
        exact e
      · by_cases e : c = k
        · rw [e, z_ss]
        · have e2 := j2' c hc
          rw [z_mmu, if_neg (fun m => e m.symm), Nat.or_zero] at e2
          rw [z_sn (by omega)]
          exact e2
      · rw [z_sn (by omega)]
        exact j3
      · rw [z_sn (by omega)]
        exact j4 m j hj
    · rw [if_pos (show S 80 k ≤ z_i (z_hk x k i) by rw [z_leI2, hr k (by omega), z_it3 (by omega)]; omega), z_gf_inv z_gp_h r (i + 1) _ B (by omega) (fun w => t (ho.mp w))]
      exact ih (k + 1) B U (by omega) I
theorem z_ldsr (hb : z_Bh n K od room S) : ∀ (r i f : Nat) (x : Nat → Nat) (B : z_Gt) (U : v_Sf), i + r = n → r ≤ f → z_rm K room x i → z_Ih n K i x B S U → z_Ih n K i x (z_gf K n (z_rm K room) (z_hsc od) r i x B) S (g_lodgeN f (z_i i) (Int32.ofInt (z_hsc od x i)) U) := by
  obtain ⟨h6, hK, h4, h5', hr, hA⟩ := id hb
  intro r
  induction r with
  | zero =>
    intro i f x B U hi hf v I
    obtain rfl : i = n := by omega
    obtain ⟨i1, i2, i2', i3, i4, i5, i6⟩ := id I
    obtain ⟨φ, hφ⟩ : ∃ φ, g_lodgeN f = g_lodgeF φ := by
      cases f with
      | zero => exact ⟨_, rfl⟩
      | succ f => exact ⟨_, rfl⟩
    have cb := z_hc_b od x i h6
    rw [hφ]
    unfold g_lodgeF F_lodgeF g_X4_keepRow
    rw [i3, i1 76 4 (by omega), h4, if_pos (show z_i i ≤ z_i i by rw [z_ile (by omega) (by omega)]; omega), z_gf, z_gs]
    by_cases q : z_hsc od x i < B.1
    · rw [if_pos ((z_oil (by omega) (by omega)).mpr q), if_pos ⟨v, q⟩]
      refine ⟨fun a j m => ?_, fun j hj => ?_, fun c hc => ?_, ?_, fun m j hj => ?_, cb.1, ?_⟩
      · rw [z_cpn (by omega), z_sn (by omega)]
        exact i1 a j m
      · rw [z_cpn (by omega), z_sn (by omega)]
        exact i2 j hj
      · rw [z_cpn (by omega), z_sn (by omega)]
        exact i2' c hc
      · rw [z_cpn (by omega), z_ss]
      · rw [z_cps (k := 8) rfl (by omega), z_sn (by omega)]
        exact i2 j hj
      · show z_hsc od x i ≤ 1000
        omega
    · rw [if_neg (fun m => q ((z_oil (by omega) (by omega)).mp m)), if_neg (fun m => q m.2)]
      exact I
  | succ r ih =>
    intro i f x B U hi hf v I
    obtain ⟨i1, i2, i2', i3, i4, i5, i6⟩ := id I
    obtain ⟨f, rfl⟩ : ∃ f', f = f' + 1 := ⟨f - 1, by omega⟩
    have cb := z_hc_b od x i (by omega)
    rw [show g_lodgeN (f + 1) = g_lodgeF (g_lodgeN f) from rfl]
    unfold g_lodgeF F_lodgeF
    rw [i3, i1 76 4 (by omega), h4, if_neg (show ¬ z_i n ≤ z_i i by rw [z_ile (by omega) (by omega)]; omega), if_pos (show z_i i < Int32.ofInt 8 by rw [show Int32.ofInt 8 = z_i 8 from rfl, z_ilt (by omega) (by omega)]; omega)]
    by_cases q : z_hsc od x i < B.1
    · rw [if_pos ((z_oil (by omega) (by omega)).mpr q), z_gf]
      exact z_ldl hb hi v (fun y C V vy Iy => ih (i + 1) f y C V (by omega) (by omega) vy Iy) K 0 B U (by omega) I
    · rw [if_neg (fun m => q ((z_oil (by omega) (by omega)).mp m)), z_gf_bnd z_gp_h (r + 1) i x B hi (by omega)]
      exact I
end LD
