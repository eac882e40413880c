/-! the ring: the class -/
noncomputable def z_Rb (n : Nat) (od : Nat → Nat → Prop) (S : v_Sf) : Prop := S 76 4 = z_i n ∧ z_At n (fun a b => a < n ∧ b < n ∧ a ≠ b ∧ od a b) S
section RC
variable {n : Nat} {od : Nat → Nat → Prop}
theorem z_okC {S : v_Sf} (h : z_Rb n od S) (h8 : n ≤ 8) {s l k : Nat} (hl : l < n) (sl : s.testBit l = true) (hk : k < n) : (f_X11_isIn (z_i s ||| S 79 l) (z_i k) = 0) ↔ ((¬ s.testBit k = true) ∧ ¬ od l k) := by
  obtain ⟨A, a1, a2, a3⟩ := h.2 l hl
  have a3k := a3 k (by omega)
  rw [a2, z_orN, z_isInN (by omega), Nat.testBit_or]
  constructor
  · intro m
    have m1 : s.testBit k = false ∧ A.testBit k = false := by simpa using m
    refine ⟨by rw [m1.1]; exact fun z => Bool.noConfusion z, fun o => ?_⟩
    have ne : l ≠ k := fun e => by
      have m2 := m1.1
      rw [← e, sl] at m2
      exact Bool.noConfusion m2
    have := a3k.mpr ⟨hl, hk, ne, o⟩
    rw [m1.2] at this
    exact Bool.noConfusion this
  · rintro ⟨m1, m2⟩
    have b1 : s.testBit k = false := by simpa using m1
    have b2 : A.testBit k = false := by
      have : ¬ A.testBit k = true := fun z => m2 (a3k.mp z).2.2.2
      simpa using this
    rw [b1, b2]
    rfl
/-- what the table holds for the sets behind s -/
noncomputable def z_Tu (n : Nat) (od : Nat → Nat → Prop) (S : v_Sf) (s : Nat) : Prop := ∀ k, 1 ≤ k → k < n → ¬ s.testBit k = true → S 85 ((s ||| 2 ^ k) * 8 + k) = z_Wr n od (s ||| 2 ^ k) k
theorem z_or256 {s k : Nat} (hs : s < 256) (hk : k < 8) : s ||| 2 ^ k < 256 := Nat.or_lt_two_pow (n := 8) hs (Nat.pow_lt_pow_right (by decide) hk)
theorem z_won_l {S : v_Sf} (h : z_Rb n od S) (h8 : n ≤ 8) {s l : Nat} (hs : s < 256) (hl : l < n) (sl : s.testBit l = true) (hT : z_Tu n od S s) : ∀ (r k q : Nat) (x : Int32), k + r = n → 1 ≤ k → r ≤ q → r_won (z_i s) (z_i l) S q k x = z_rs (fun k => (¬ s.testBit k = true) ∧ ¬ od l k) (fun k => z_Wr n od (s ||| 2 ^ k) k) r k x := by
  intro r
  induction r with
  | zero =>
    intro k q x hk _ _
    rw [z_rs]
    cases q with
    | zero => rw [r_won]
    | succ q => rw [r_won, h.1, if_pos (show z_i n ≤ z_i k by rw [z_ile (by omega) (by omega)]; omega)]
  | succ r ih =>
    intro k q x hk h1 hq
    obtain ⟨q, rfl⟩ : ∃ q', q = q' + 1 := ⟨q - 1, by omega⟩
    have ok := z_okC h h8 hl sl (show k < n by omega)
    rw [r_won, z_rs, h.1, if_neg (show ¬ z_i n ≤ z_i k by rw [z_ile (by omega) (by omega)]; omega), z_iin (show l < 2147483648 by omega)]
    by_cases t : f_X11_isIn (z_i s ||| S 79 l) (z_i k) = 0
    · have o := ok.mp t
      rw [if_neg (show ¬ ¬ f_X11_isIn (z_i s ||| S 79 l) (z_i k) = 0 from fun m => m t), if_pos o, z_shR (by omega), z_orN, z_ix8, z_iin (by have := z_or256 hs (show k < 8 by omega); omega), hT k h1 (by omega) o.1]
      exact ih (k + 1) q _ (by omega) (by omega) (by omega)
    · rw [if_pos t, if_neg (fun m => t (ok.mpr m))]
      exact ih (k + 1) q _ (by omega) (by omega) (by omega)
theorem z_wonC {S : v_Sf} (h : z_Rb n od S) (h3 : 3 ≤ n) (h8 : n ≤ 8) {s l : Nat} (hs : s < 2 ^ n) (hl : l < n) (sl : s.testBit l = true) (hc : l ≠ 0 ∨ s ≠ 2 ^ n - 1) (hT : z_Tu n od S s) : f_X4_waysOn (z_i s) (z_i l) (z_i (2 ^ n - 1)) S = z_Wr n od s l := by
  have s256 := z_lt256 h8 hs
  have p8 : 2 ^ n ≤ 2 ^ 8 := Nat.pow_le_pow_right (by decide) h8
  unfold f_X4_waysOn
  by_cases e : s = 2 ^ n - 1
  · rw [if_neg (show ¬ ¬ z_i s = z_i (2 ^ n - 1) from fun m => m (by rw [e])), z_Wr_f ((z_cn_full h8 hs).mpr e), z_iin (show l < 2147483648 by omega)]
    obtain ⟨A, a1, a2, a3⟩ := h.2 l hl
    have a30 := a3 0 (by omega)
    rw [a2, show Int32.ofInt 0 = z_i 0 from rfl]
    have l0 : l ≠ 0 := hc.resolve_right (fun m => m e)
    have hI := z_isInN (X := A) (g := 0) (by omega)
    by_cases o : od l 0
    · rw [if_pos o, if_neg (show ¬ f_X11_isIn (z_i A) (z_i 0) = 0 from fun m => by have := a30.mpr ⟨hl, by omega, l0, o⟩; rw [hI.mp m] at this; exact Bool.noConfusion this)]
    · have b0 : A.testBit 0 = false := by
        have : ¬ A.testBit 0 = true := fun z => o (a30.mp z).2.2.2
        simpa using this
      rw [if_neg o, if_pos (hI.mpr b0)]
  · rw [if_pos (show ¬ z_i s = z_i (2 ^ n - 1) from fun m => e (z_ieqR (by omega) (by omega) m))]
    have hc2 : z_cn s n < n := by
      have := z_cn_full h8 hs
      have := z_cnkU s n
      omega
    rw [z_Wr_s hc2]
    exact z_won_l h h8 s256 hl sl hT (n - 1) 1 7 _ (by omega) (by omega) (by omega)
/-- sets of which the lowest is one, from m on -/
noncomputable def z_Td (n : Nat) (od : Nat → Nat → Prop) (S : v_Sf) (m : Nat) : Prop := ∀ s l, m ≤ s → s < 2 ^ n → s.testBit 0 = true → l < n → s.testBit l = true → (l ≠ 0 ∨ s ≠ 2 ^ n - 1) → S 85 (s * 8 + l) = z_Wr n od s l
theorem z_Td_u {S : v_Sf} {m s : Nat} (hT : z_Td n od S m) (hs : s < 2 ^ n) (s0 : s.testBit 0 = true) (hm : m ≤ s + 2) : z_Tu n od S s := fun k h1 hk nk => by
  have b0 : (s ||| 2 ^ k).testBit 0 = true := by rw [Nat.testBit_or, s0, Bool.true_or]
  have bk : (s ||| 2 ^ k).testBit k = true := by
    rw [Nat.testBit_or, Nat.testBit_two_pow]
    simp
  have le : s ≤ s ||| 2 ^ k := Nat.left_le_or
  have ne : s ≠ s ||| 2 ^ k := fun e => nk (by rw [e]; exact bk)
  have p0 : s % 2 = 1 := by
    rw [Nat.testBit_zero, decide_eq_true_iff] at s0
    exact s0
  have p1 : (s ||| 2 ^ k) % 2 = 1 := by
    rw [Nat.testBit_zero, decide_eq_true_iff] at b0
    exact b0
  exact hT (s ||| 2 ^ k) k (by omega) (Nat.or_lt_two_pow hs (Nat.pow_lt_pow_right (by decide) hk)) b0 hk bk (Or.inl (by omega))
noncomputable def z_Rf (U S : v_Sf) : Prop := ∀ a j, a ≠ 85 → S a j = U a j
theorem z_Rb_f {S S' : v_Sf} (h : z_Rb n od S) (f1 : S' 76 4 = S 76 4) (f2 : ∀ j, S' 79 j = S 79 j) : z_Rb n od S' := ⟨f1.trans h.1, fun a ha => by
  obtain ⟨A, a1, a2, a3⟩ := h.2 a ha
  exact ⟨A, a1, (f2 a).trans a2, a3⟩⟩
noncomputable def z_C29 (n : Nat) (od : Nat → Nat → Prop) (U : v_Sf) (x3 x4 : Int32) (S : v_Sf) : Prop := x3 = z_i (2 ^ n - 1) ∧ z_Rf U S ∧ ∃ j : Nat, 2 * j ≤ 2 ^ n ∧ x4 = Int32.ofInt (2 * (j : Int) - 1) ∧ z_Td n od S (2 * j + 1)
noncomputable def z_C37 (n : Nat) (od : Nat → Nat → Prop) (U : v_Sf) (x3 x4 x5 : Int32) (S : v_Sf) : Prop := x3 = z_i (2 ^ n - 1) ∧ z_Rf U S ∧ ∃ s l0, s < 2 ^ n ∧ s.testBit 0 = true ∧ x4 = z_i s ∧ l0 ≤ n ∧ x5 = z_i l0 ∧ z_Td n od S (s + 2) ∧ ∀ l, l < l0 → s.testBit l = true → (l ≠ 0 ∨ s ≠ 2 ^ n - 1) → S 85 (s * 8 + l) = z_Wr n od s l
noncomputable def z_KC (n : Nat) (od : Nat → Nat → Prop) (U : v_Sf) (v : Int32) (S : v_Sf) : Prop := v = z_Wr n od 1 0 ∧ (∀ a j, a ≠ 84 → a ≠ 85 → S a j = U a j) ∧ (¬ z_Wr n od 1 0 = 0 → ∀ i, i < n → S 84 i = z_i (z_wlk n od i).2)
theorem z_fst_l {S : v_Sf} (h : z_Rb n od S) (h8 : n ≤ 8) {s l : Nat} (hs : s < 256) (hl : l < n) (sl : s.testBit l = true) (hT : z_Tu n od S s) : ∀ (r k q : Nat), k + r = n → 1 ≤ k → r ≤ q → (∃ j, k ≤ j ∧ j < k + r ∧ z_nP n od s l j) → r_fst (z_i s) (z_i l) S q k = z_i (z_fk (z_nP n od s l) r k) := by
  intro r
  induction r with
  | zero =>
    intro k q hk _ _ ex
    obtain ⟨j, a, b, _⟩ := ex
    omega
  | succ r ih =>
    intro k q hk h1 hq ex
    obtain ⟨q, rfl⟩ : ∃ q', q = q' + 1 := ⟨q - 1, by omega⟩
    have ok := z_okC h h8 hl sl (show k < n by omega)
    have nxt : ¬ z_nP n od s l k → ∃ j, k + 1 ≤ j ∧ j < k + 1 + r ∧ z_nP n od s l j := fun np => by
      obtain ⟨j, a, b, p⟩ := ex
      have : j ≠ k := fun e => np (by rw [← e]; exact p)
      exact ⟨j, by omega, by omega, p⟩
    rw [r_fst, z_fk, h.1, if_neg (show ¬ z_i n ≤ z_i k by rw [z_ile (by omega) (by omega)]; omega), z_iin (show l < 2147483648 by omega)]
    by_cases t : f_X11_isIn (z_i s ||| S 79 l) (z_i k) = 0
    · have o := ok.mp t
      have wp := z_Wr_p (od := od) h8 (s ||| 2 ^ k) k
      rw [if_neg (show ¬ ¬ f_X11_isIn (z_i s ||| S 79 l) (z_i k) = 0 from fun m => m t), z_shR (by omega), z_orN, z_ix8, z_iin (by have := z_or256 hs (show k < 8 by omega); omega), hT k h1 (by omega) o.1]
      by_cases w : z_Wr n od (s ||| 2 ^ k) k ≤ 0
      · have w0 : z_Wr n od (s ||| 2 ^ k) k = 0 := z_inj2 (by rw [z_leI2, show (0 : Int32).toInt = 0 from rfl] at w; rw [show (0 : Int32).toInt = 0 from rfl]; omega)
        have np : ¬ z_nP n od s l k := fun m => m.2.2 w0
        rw [if_pos w, if_neg np]
        exact ih (k + 1) q (by omega) (by omega) (by omega) (nxt np)
      · have p : z_nP n od s l k := ⟨o.1, o.2, fun m => w (by rw [m, z_leI2]; exact Int.le_refl _)⟩
        rw [if_neg w, if_pos p]
    · have np : ¬ z_nP n od s l k := fun m => t (ok.mpr ⟨m.1, m.2.1⟩)
      rw [if_pos t, if_neg np]
      exact ih (k + 1) q (by omega) (by omega) (by omega) (nxt np)
theorem z_fstC {S : v_Sf} (h : z_Rb n od S) (h8 : n ≤ 8) {s l : Nat} (hs : s < 256) (hl : l < n) (sl : s.testBit l = true) (hT : z_Tu n od S s) (hc : z_cn s n < n) (hW : ¬ z_Wr n od s l = 0) : f_X4_firstOn (z_i s) (z_i l) S = z_i (z_nx n od s l) := by
  unfold f_X4_firstOn z_nx
  obtain ⟨p, k1, kn, -⟩ := z_nx_ok hc hW
  exact z_fst_l h h8 hs hl sl hT (n - 1) 1 7 (by omega) (by omega) (by omega) ⟨_, k1, by omega, p⟩
theorem z_wlk_l (h3 : 3 ≤ n) (h8 : n ≤ 8) (h0 : ¬ z_Wr n od 1 0 = 0) : ∀ (r i q : Nat) (S : v_Sf), i + 1 + r = n → r ≤ q → z_Rb n od S → z_Td n od S 1 → (∀ j, j ≤ i → S 84 j = z_i (z_wlk n od j).2) → (∀ a j, a ≠ 84 → r_wlk q (i + 1) (z_i (z_wlk n od i).1) (z_i (z_wlk n od i).2) S a j = S a j) ∧ ∀ j, j < n → r_wlk q (i + 1) (z_i (z_wlk n od i).1) (z_i (z_wlk n od i).2) S 84 j = z_i (z_wlk n od j).2 := by
  intro r
  induction r with
  | zero =>
    intro i q S hi _ h hT hS
    have e : r_wlk q (i + 1) (z_i (z_wlk n od i).1) (z_i (z_wlk n od i).2) S = S := by
      cases q with
      | zero => rw [r_wlk]
      | succ q => rw [r_wlk, h.1, if_pos (show z_i n ≤ z_i (i + 1) by rw [z_ile (by omega) (by omega)]; omega)]
    rw [e]
    exact ⟨fun a j _ => rfl, fun j hj => hS j (by omega)⟩
  | succ r ih =>
    intro i q S hi hq h hT hS
    obtain ⟨q, rfl⟩ : ∃ q', q = q' + 1 := ⟨q - 1, by omega⟩
    obtain ⟨w1, w2, w3, w4, w5, w6⟩ := z_wlk_ok h3 h0 i (by omega)
    have f := z_fstC h h8 (z_lt256 h8 w1) w4 w3 (z_Td_u hT w1 w2 (by omega)) (by omega) w6
    obtain ⟨p, k1, kn, -⟩ := z_nx_ok (by omega) w6
    have e1 : z_i (z_wlk n od i).1 ||| z_i (2 ^ z_nx n od (z_wlk n od i).1 (z_wlk n od i).2) = z_i (z_wlk n od (i + 1)).1 := z_orN _ _
    have e2 : z_i (z_nx n od (z_wlk n od i).1 (z_wlk n od i).2) = z_i (z_wlk n od (i + 1)).2 := rfl
    rw [r_wlk, h.1, if_neg (show ¬ z_i n ≤ z_i (i + 1) by rw [z_ile (by omega) (by omega)]; omega), f, z_shR (by omega), e1, e2, z_iin (show i + 1 < 2147483648 by omega)]
    obtain ⟨i1, i2⟩ := ih (i + 1) q (z_s S 84 (i + 1) (z_i (z_wlk n od (i + 1)).2)) (by omega) (by omega) (z_Rb_f h (z_sn (by omega)) (fun j => z_sn (by omega))) (fun s l a1 a2 a3 a4 a5 a6 => by rw [z_sn (by omega)]; exact hT s l a1 a2 a3 a4 a5 a6) (fun j hj => by
      by_cases e : j = i + 1
      · rw [e, z_ss]
      · rw [z_sn (by omega)]
        exact hS j (by omega))
    exact ⟨fun a j q => by rw [i1 a j q, z_sn (by omega)], i2⟩
theorem z_c37 (h3 : 3 ≤ n) (h8 : n ≤ 8) {U : v_Sf} (hU : z_Rb n od U) {c : Nat} (x3 x4 x5 : Int32) (S : v_Sf) (h : z_C37 n od U x3 x4 x5 S) : D_X4_ring_37 c (z_C29 n od U) (z_C37 n od U) (z_KC n od U) x3 x4 x5 S := by
  obtain ⟨rfl, hf, s, l0, hs, s0, rfl, hl, rfl, hT, hD⟩ := h
  have hR : z_Rb n od S := z_Rb_f hU (hf 76 4 (by decide)) (fun j => hf 79 j (by decide))
  have s256 := z_lt256 h8 hs
  have so : s % 2 = 1 := by
    have := s0
    rw [Nat.testBit_zero, decide_eq_true_iff] at this
    exact this
  unfold D_X4_ring_37
  rw [hR.1, z_ile (by omega) (by omega)]
  refine ⟨fun q => ⟨rfl, hf, s / 2, by omega, ?_, fun s' l a1 a2 a3 a4 a5 a6 => ?_⟩, fun q => ⟨fun t => ⟨rfl, hf, s, l0 + 1, hs, s0, rfl, by omega, z_i1 l0, hT, fun l hl' sl cl => ?_⟩, fun t _ _ => ?_⟩⟩
  · show Int32.ofInt (s : Int) + Int32.ofInt (-2) = Int32.ofInt (2 * ((s / 2 : Nat) : Int) - 1)
    rw [← Int32.ofInt_add]
    congr 1
    omega
  · by_cases e : s' = s
    · rw [e] at a5 a6 ⊢
      exact hD l (by omega) a5 a6
    · refine hT s' l ?_ a2 a3 a4 a5 a6
      have := a3
      rw [Nat.testBit_zero, decide_eq_true_iff] at this
      omega
  · by_cases e : l = l0
    · have hI := (z_isInN (X := s) (g := l0) (by omega)).mp t
      rw [e, hI] at sl
      exact Bool.noConfusion sl
    · exact hD l (by omega) sl cl
  · have tl : s.testBit l0 = true := by
      have : ¬ s.testBit l0 = false := fun z => t ((z_isInN (X := s) (g := l0) (by omega)).mpr z)
      simpa using this
    rw [z_ix8, z_iin (show s * 8 + l0 < 2147483648 by omega)]
    refine ⟨rfl, fun a j q => by rw [z_sn (by omega)]; exact hf a j q, s, l0 + 1, hs, s0, rfl, by omega, z_i1 l0, fun s' l a1 a2 a3 a4 a5 a6 => ?_, fun l hl' sl cl => ?_⟩
    · rw [z_sn (by omega)]
      exact hT s' l a1 a2 a3 a4 a5 a6
    · by_cases e : l = l0
      · rw [e] at cl ⊢
        rw [z_ss]
        exact z_wonC hR h3 h8 hs (by omega) tl cl (z_Td_u hT hs s0 (by omega))
      · rw [z_sn (by omega)]
        exact hD l (by omega) sl cl
theorem z_c29 (h3 : 3 ≤ n) (h8 : n ≤ 8) {U : v_Sf} (hU : z_Rb n od U) {c : Nat} (x3 x4 : Int32) (S : v_Sf) (h : z_C29 n od U x3 x4 S) : D_X4_ring_29 c (z_C29 n od U) (z_C37 n od U) (z_KC n od U) x3 x4 S := by
  obtain ⟨rfl, hf, j, hj, rfl, hT⟩ := h
  have hR : z_Rb n od S := z_Rb_f hU (hf 76 4 (by decide)) (fun j => hf 79 j (by decide))
  have p8 : 2 ^ n ≤ 2 ^ 8 := Nat.pow_le_pow_right (by decide) h8
  have p3 : 2 ^ 3 ≤ 2 ^ n := Nat.pow_le_pow_right (by decide) h3
  have ex4 : (Int32.ofInt (2 * (j : Int) - 1)).toInt = 2 * (j : Int) - 1 := q_ofr (by omega) (by omega)
  unfold D_X4_ring_29
  rw [z_leI2 (a := Int32.ofInt (2 * (j : Int) - 1)), ex4, show (0 : Int32).toInt = 0 from rfl]
  refine ⟨fun q _ _ => ?_, fun q => ?_⟩
  · obtain rfl : j = 0 := by omega
    have hT1 : z_Td n od S 1 := hT
    have e8 : S 85 8 = z_Wr n od 1 0 := hT1 1 0 (by omega) (by omega) (by decide) (by omega) (by decide) (Or.inr (by omega))
    have wp := z_Wr_p (od := od) h8 1 0
    rw [e8]
    refine ⟨fun w => ⟨rfl, fun a j _ q2 => hf a j q2, fun m => absurd (z_inj2 (by rw [z_leI2, show (0 : Int32).toInt = 0 from rfl] at w; rw [show (0 : Int32).toInt = 0 from rfl]; omega)) m⟩, fun w => ?_⟩
    have w0 : ¬ z_Wr n od 1 0 = 0 := fun m => w (by rw [m, z_leI2]; exact Int.le_refl _)
    unfold g_X4_walkFirst
    obtain ⟨k1, k2⟩ := z_wlk_l h3 h8 w0 (n - 1) 0 7 (z_s S 84 0 (Int32.ofInt 0)) (by omega) (by omega) (z_Rb_f hR (z_sn (by omega)) (fun j => z_sn (by omega))) (fun s l a1 a2 a3 a4 a5 a6 => by rw [z_sn (by omega)]; exact hT1 s l a1 a2 a3 a4 a5 a6) (fun j hj => by
      obtain rfl : j = 0 := by omega
      rw [z_ss]
      rfl)
    exact ⟨rfl, fun a j q1 q2 => (k1 a j q1).trans (by rw [z_sn (by omega)]; exact hf a j q2), fun _ => k2⟩
  · refine ⟨rfl, hf, 2 * j - 1, 0, by omega, ?_, ?_, Nat.zero_le n, rfl, fun s l a1 a2 a3 a4 a5 a6 => hT s l (by omega) a2 a3 a4 a5 a6, fun l hl => absurd hl (Nat.not_lt_zero l)⟩
    · rw [Nat.testBit_zero, decide_eq_true_iff]
      omega
    · show Int32.ofInt (2 * (j : Int) - 1) = Int32.ofInt ((2 * j - 1 : Nat) : Int)
      congr 1
      omega
end RC
