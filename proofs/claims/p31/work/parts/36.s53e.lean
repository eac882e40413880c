/-! the ring: the reference, and both together -/
noncomputable def z_fR (V U : v_Sf) : Prop := ∀ a j, ¬ (a = 99 ∧ 27 ≤ j ∧ j ≤ 40 ∨ a = 114 ∨ a = 115 ∨ a = 171 ∨ a = 172) → U a j = V a j
noncomputable def z_Pt (n : Nat) (od : Nat → Nat → Prop) (S : v_Sf) (a : Nat) : Prop := ∀ a' b, a' < a → b < n → (S 172 (8 * a' + b) = 0 ↔ (a' = b ∨ od a' b))
noncomputable def z_Mt (n : Nat) (od : Nat → Nat → Prop) (S : v_Sf) (m : Nat) : Prop := ∀ s l, m ≤ s → s < 2 ^ n → l < n → s.testBit l = true → (l ≠ 0 ∨ s ≠ 2 ^ n - 1) → S 171 (8 * s + l) = z_Wr n od s l
noncomputable def z_M2 (n : Nat) (od : Nat → Nat → Prop) (V : v_Sf) (x1 x2 : Int32) (S : v_Sf) : Prop := x1 = z_i n ∧ z_fR V S ∧ ∃ a, a ≤ n ∧ x2 = z_i a ∧ z_Pt n od S a
noncomputable def z_M9 (n : Nat) (od : Nat → Nat → Prop) (V : v_Sf) (x1 x2 x3 : Int32) (S : v_Sf) : Prop := x1 = z_i n ∧ z_fR V S ∧ ∃ a b0, a < n ∧ b0 ≤ n ∧ x2 = z_i a ∧ x3 = z_i b0 ∧ z_Pt n od S a ∧ ∀ b, b < b0 → (S 172 (8 * a + b) = 0 ↔ (a = b ∨ od a b))
noncomputable def z_M72 (n : Nat) (od : Nat → Nat → Prop) (V : v_Sf) (x1 x2 : Int32) (S : v_Sf) : Prop := x1 = z_i n ∧ z_fR V S ∧ z_Pt n od S n ∧ ∃ s, s < 2 ^ n ∧ x2 = z_i s ∧ z_Mt n od S (s + 1)
noncomputable def z_M78 (n : Nat) (od : Nat → Nat → Prop) (V : v_Sf) (x1 x2 x3 : Int32) (S : v_Sf) : Prop := x1 = z_i n ∧ z_fR V S ∧ z_Pt n od S n ∧ ∃ s l0, 1 ≤ s ∧ s < 2 ^ n ∧ l0 ≤ n ∧ x2 = z_i s ∧ x3 = z_i l0 ∧ z_Mt n od S (s + 1) ∧ ∀ l, l < l0 → s.testBit l = true → (l ≠ 0 ∨ s ≠ 2 ^ n - 1) → S 171 (8 * s + l) = z_Wr n od s l
noncomputable def z_M118 (n : Nat) (od : Nat → Nat → Prop) (V : v_Sf) (x1 x2 x3 x4 x5 : Int32) (S : v_Sf) : Prop := x1 = z_i n ∧ z_fR V S ∧ z_Pt n od S n ∧ ∃ s l0 k, 1 ≤ s ∧ s < 2 ^ n ∧ l0 < n ∧ 1 ≤ k ∧ k ≤ n ∧ x2 = z_i s ∧ x3 = z_i l0 ∧ x5 = z_i k ∧ z_Mt n od S (s + 1) ∧ (∀ l, l < l0 → s.testBit l = true → (l ≠ 0 ∨ s ≠ 2 ^ n - 1) → S 171 (8 * s + l) = z_Wr n od s l) ∧ (s.testBit l0 = true → (l0 ≠ 0 ∨ s ≠ 2 ^ n - 1) → z_rs (fun k => (¬ s.testBit k = true) ∧ ¬ od l0 k) (fun k => z_Wr n od (s ||| 2 ^ k) k) (n - k) k x4 = z_Wr n od s l0)
noncomputable def z_KM (n : Nat) (od : Nat → Nat → Prop) (V : v_Sf) (S : v_Sf) : Prop := z_fR V S ∧ z_Pt n od S n ∧ z_Mt n od S 1
section RM
variable {n : Nat} {od : Nat → Nat → Prop} {V : v_Sf}
theorem z_n20R : u_nar 2 (Int32.ofInt 0) = 0 := by decide
theorem z_n21R : ¬ u_nar 2 (Int32.ofInt 1) = 0 := by decide
theorem z_m2 (h8 : n ≤ 8) (x1 x2 : Int32) (S : v_Sf) (h : z_M2 n od V x1 x2 S) : D_X12_laysRing_2 (z_M2 n od V) (z_M9 n od V) (z_M72 n od V) (z_M78 n od V) (z_M118 n od V) (z_KM n od V) x1 x2 S := by
  obtain ⟨rfl, hf, a, ha, rfl, hP⟩ := h
  unfold D_X12_laysRing_2
  rw [z_ile (by omega) (by omega)]
  refine ⟨fun q => ?_, fun q => ⟨rfl, hf, a, 0, by omega, Nat.zero_le n, rfl, rfl, hP, fun b hb => absurd hb (Nat.not_lt_zero b)⟩⟩
  obtain rfl : a = n := by omega
  exact ⟨rfl, hf, hP, 2 ^ a - 1, by have := Nat.one_le_two_pow (n := a); omega, z_sh8_all ⟨a, by omega⟩, fun s l h1 h2 _ _ _ => absurd h2 (by omega)⟩
theorem z_m9s {S S' : v_Sf} {a b0 : Nat} {v : Int32} (h8 : n ≤ 8) (ha : a < n) (hb : b0 < n) (hf : z_fR V S) (hP : z_Pt n od S a) (hB : ∀ b, b < b0 → (S 172 (8 * a + b) = 0 ↔ (a = b ∨ od a b))) (hv : v = 0 ↔ (a = b0 ∨ od a b0)) (f : ∀ a' j, ¬ (a' = 99 ∧ 27 ≤ j ∧ j ≤ 40) → a' ≠ 114 → a' ≠ 115 → S' a' j = S a' j) : z_M9 n od V (z_i n) (z_i a) (z_i b0 + Int32.ofInt 1) (z_s S' 172 (8 * a + b0) v) := by
  refine ⟨rfl, fun a' j q => ?_, a, b0 + 1, ha, by omega, rfl, z_i1 b0, fun a' b h1 h2 => ?_, fun b hb' => ?_⟩
  · rw [z_sn (by omega), f a' j (by omega) (by omega) (by omega)]
    exact hf a' j q
  · rw [z_sn (by omega), f 172 _ (by omega) (by omega) (by omega)]
    exact hP a' b h1 h2
  · by_cases e : b = b0
    · rw [e, z_ss]
      exact hv
    · rw [z_sn (by omega), f 172 _ (by omega) (by omega) (by omega)]
      exact hB b (by omega)
theorem z_m9 (h8 : n ≤ 8) (hq : ∀ U, z_fR V U → ∀ a b, a < n → b < n → a ≠ b → (f_X12_doQuarrel (V 152 a) (V 152 b) U = 0 ↔ ¬ od a b) ∧ ∀ a' j, ¬ (a' = 99 ∧ 27 ≤ j ∧ j ≤ 40) → a' ≠ 114 → a' ≠ 115 → g_X12_doQuarrel (V 152 a) (V 152 b) U a' j = U a' j) (x1 x2 x3 : Int32) (S : v_Sf) (h : z_M9 n od V x1 x2 x3 S) : D_X12_laysRing_9 (z_M2 n od V) (z_M9 n od V) (z_M72 n od V) (z_M78 n od V) (z_M118 n od V) (z_KM n od V) x1 x2 x3 S := by
  obtain ⟨rfl, hf, a, b0, ha, hb, rfl, rfl, hP, hB⟩ := h
  have ea : (z_i a).toInt.toNat = a := z_iin (by omega)
  have eb : (z_i b0).toInt.toNat = b0 := z_iin (by omega)
  have eq1 : (z_i a = z_i b0) ↔ a = b0 := ⟨fun m => z_ieqR (by omega) (by omega) m, fun m => by rw [m]⟩
  have ei : (z_i (8 * a + b0)).toInt.toNat = 8 * a + b0 := z_iin (by omega)
  unfold D_X12_laysRing_9
  rw [z_ile (by omega) (by omega), eq1, z_ix8', ei, ea, eb]
  refine ⟨fun q => ⟨rfl, hf, a + 1, by omega, z_i1 a, fun a' b h1 h2 => ?_⟩, fun q => ⟨fun t _ _ => ?_, fun t _ _ _ _ => ?_⟩⟩
  · by_cases e : a' = a
    · rw [e]
      exact hB b (by omega)
    · exact hP a' b (by omega) h2
  · exact z_m9s h8 ha (by omega) hf hP hB ⟨fun _ => Or.inl t, fun _ => z_n20R⟩ (fun _ _ _ _ _ => rfl)
  · obtain ⟨q1, q2⟩ := hq S hf a b0 ha (by omega) t
    rw [hf 152 a (by omega), hf 152 b0 (by omega)]
    refine ⟨fun u _ _ => z_m9s h8 ha (by omega) hf hP hB ⟨fun _ => Or.inr (Classical.byContradiction (fun m => u (q1.mpr m))), fun _ => z_n20R⟩ q2, fun u _ _ => z_m9s h8 ha (by omega) hf hP hB ⟨fun m => absurd m z_n21R, fun m => absurd (m.resolve_left t) (q1.mp (Classical.not_not.mp u))⟩ q2⟩
theorem z_m72 (h8 : n ≤ 8) (x1 x2 : Int32) (S : v_Sf) (h : z_M72 n od V x1 x2 S) : D_X12_laysRing_72 (z_M2 n od V) (z_M9 n od V) (z_M72 n od V) (z_M78 n od V) (z_M118 n od V) (z_KM n od V) x1 x2 S := by
  obtain ⟨rfl, hf, hP, s, hs, rfl, hT⟩ := h
  have s256 := z_lt256 h8 hs
  unfold D_X12_laysRing_72
  rw [show (0 : Int32) = z_i 0 from rfl, z_ile (by omega) (by omega)]
  refine ⟨fun q => ?_, fun q => ⟨rfl, hf, hP, s, 0, by omega, hs, Nat.zero_le n, rfl, rfl, hT, fun l hl => absurd hl (Nat.not_lt_zero l)⟩⟩
  obtain rfl : s = 0 := by omega
  exact ⟨hf, hP, hT⟩
theorem z_m78 (h3 : 3 ≤ n) (h8 : n ≤ 8) (x1 x2 x3 : Int32) (S : v_Sf) (h : z_M78 n od V x1 x2 x3 S) : D_X12_laysRing_78 (z_M2 n od V) (z_M9 n od V) (z_M72 n od V) (z_M78 n od V) (z_M118 n od V) (z_KM n od V) x1 x2 x3 S := by
  obtain ⟨rfl, hf, hP, s, l0, h1, hs, hl, rfl, rfl, hT, hD⟩ := h
  have s256 := z_lt256 h8 hs
  have p8 : 2 ^ n ≤ 2 ^ 8 := Nat.pow_le_pow_right (by decide) h8
  have sh : (Int32.ofInt 1 <<< (z_i n &&& 31)) - Int32.ofInt 1 = z_i (2 ^ n - 1) := z_sh8_all ⟨n, by omega⟩
  have eq1 : (z_i s = z_i (2 ^ n - 1)) ↔ s = 2 ^ n - 1 := ⟨fun m => z_ieqR (by omega) (by omega) m, fun m => by rw [m]⟩
  have i8 : Int32.ofInt 8 * z_i l0 = z_i (8 * l0) := by rw [show Int32.ofInt 8 = z_i 8 from rfl, z_imul]
  unfold D_X12_laysRing_78
  rw [z_ile (by omega) (by omega), sh, eq1, i8, z_iin (show 8 * l0 < 2147483648 by omega)]
  refine ⟨fun q => ⟨rfl, hf, hP, s - 1, by omega, ?_, fun s' l a1 a2 a3 a4 a5 => ?_⟩, fun q => ⟨fun t => ⟨rfl, hf, hP, s, l0, 1, h1, hs, by omega, Nat.le_refl 1, by omega, rfl, rfl, rfl, hT, hD, fun sl cl => ?_⟩, fun t _ _ => ?_⟩⟩
  · show Int32.ofInt (s : Int) + Int32.ofInt (-1) = Int32.ofInt ((s - 1 : Nat) : Int)
    rw [← Int32.ofInt_add]
    congr 1
    omega
  · by_cases e : s' = s
    · rw [e] at a4 a5 ⊢
      exact hD l (by omega) a4 a5
    · exact hT s' l (by omega) a2 a3 a4 a5
  · have hc2 : z_cn s n < n := by
      have := z_cn_full h8 hs
      have := z_cnkU s n
      omega
    exact (z_Wr_s hc2).symm
  · have e := Classical.not_not.mp t
    have full : ∀ k, k < n → s.testBit k = true := fun k hk => by
      rw [e, Nat.testBit_two_pow_sub_one, decide_eq_true_iff]
      exact hk
    have fin : ∀ x : Int32, x = (@ite _ (od l0 0) (Classical.propDecidable _) (Int32.ofInt 0) (Int32.ofInt 1)) → z_rs (fun k => (¬ s.testBit k = true) ∧ ¬ od l0 k) (fun k => z_Wr n od (s ||| 2 ^ k) k) (n - 1) 1 x = z_Wr n od s l0 := fun x hx => by
      have e2 : z_rs (fun k => (¬ s.testBit k = true) ∧ ¬ od l0 k) (fun k => z_Wr n od (s ||| 2 ^ k) k) (n - 1) 1 x = x := z_rs_z _ _ _ (fun j a b p => absurd (full j (by omega)) p.1)
      rw [e2, hx, z_Wr_f ((z_cn_full h8 hs).mpr e)]
    have p0 := hP l0 0 (by omega) (by omega)
    rw [Nat.add_zero] at p0
    refine ⟨fun u => ⟨rfl, hf, hP, s, l0, 1, h1, hs, by omega, Nat.le_refl 1, by omega, rfl, rfl, rfl, hT, hD, fun sl cl => fin _ ?_⟩, fun u => ⟨rfl, hf, hP, s, l0, 1, h1, hs, by omega, Nat.le_refl 1, by omega, rfl, rfl, rfl, hT, hD, fun sl cl => fin _ ?_⟩⟩
    · have l0n : l0 ≠ 0 := cl.resolve_right (fun m => m e)
      rw [if_pos ((p0.mp u).resolve_left l0n)]
    · rw [if_neg (fun m => u (p0.mpr (Or.inr m)))]
theorem z_m118 (h3 : 3 ≤ n) (h8 : n ≤ 8) (x1 x2 x3 x4 x5 : Int32) (S : v_Sf) (h : z_M118 n od V x1 x2 x3 x4 x5 S) : D_X12_laysRing_118 (z_M2 n od V) (z_M9 n od V) (z_M72 n od V) (z_M78 n od V) (z_M118 n od V) (z_KM n od V) x1 x2 x3 x4 x5 S := by
  obtain ⟨rfl, hf, hP, s, l0, k, h1, hs, hl, k1, kn, rfl, rfl, rfl, hT, hD, hx⟩ := h
  have s256 := z_lt256 h8 hs
  have hH := z_hasN0 (X := s) (g := k) (by omega)
  unfold D_X12_laysRing_118
  rw [z_ile (by omega) (by omega)]
  refine ⟨fun q _ _ => ?_, fun q => ?_⟩
  · obtain rfl : k = n := by omega
    rw [z_ix8', z_iin (show 8 * s + l0 < 2147483648 by omega)]
    refine ⟨rfl, fun a j m => by rw [z_sn (by omega)]; exact hf a j m, fun a' b a1 a2 => by rw [z_sn (by omega)]; exact hP a' b a1 a2, s, l0 + 1, h1, hs, by omega, rfl, z_i1 l0, fun s' l a1 a2 a3 a4 a5 => by rw [z_sn (by omega)]; exact hT s' l a1 a2 a3 a4 a5, fun l hl' sl cl => ?_⟩
    by_cases e : l = l0
    · rw [e] at sl cl ⊢
      rw [z_ss]
      have := hx sl cl
      rw [Nat.sub_self, z_rs] at this
      exact this
    · rw [z_sn (by omega)]
      exact hD l (by omega) sl cl
  · have e8 : n - k = (n - (k + 1)) + 1 := by omega
    have pk := hP l0 k hl (by omega)
    rw [e8] at hx
    have nxt : ∀ x, (s.testBit l0 = true → (l0 ≠ 0 ∨ s ≠ 2 ^ n - 1) → z_rs (fun k => (¬ s.testBit k = true) ∧ ¬ od l0 k) (fun k => z_Wr n od (s ||| 2 ^ k) k) (n - (k + 1)) (k + 1) x = z_Wr n od s l0) → z_M118 n od V (z_i n) (z_i s) (z_i l0) x (z_i k + Int32.ofInt 1) S := fun x hx2 => ⟨rfl, hf, hP, s, l0, k + 1, h1, hs, hl, by omega, by omega, rfl, rfl, z_i1 k, hT, hD, hx2⟩
    refine ⟨fun t => nxt x4 (fun sl cl => ?_), fun t _ _ => ?_⟩
    · have sk : s.testBit k = true := by
        have : ¬ s.testBit k = false := fun z => t (hH.mpr z)
        simpa using this
      have := hx sl cl
      rw [z_rs, if_neg (fun m => m.1 sk)] at this
      exact this
    · have sk : ¬ s.testBit k = true := by
        rw [hH.mp (Classical.not_not.mp t)]
        exact fun z => Bool.noConfusion z
      rw [z_ix8', z_iin (show 8 * l0 + k < 2147483648 by omega), z_shR (by omega), z_orN, z_ix8', z_iin (by have := z_or256 s256 (show k < 8 by omega); omega)]
      refine ⟨fun u => nxt x4 (fun sl cl => ?_), fun u _ _ => nxt _ (fun sl cl => ?_)⟩
      · have ne : l0 ≠ k := fun e => sk (by rw [← e]; exact sl)
        have := hx sl cl
        rw [z_rs, if_neg (fun m => m.2 ((pk.mp u).resolve_left ne))] at this
        exact this
      · have bk : (s ||| 2 ^ k).testBit k = true := by
          rw [Nat.testBit_or, Nat.testBit_two_pow]
          simp
        have le : s < s ||| 2 ^ k := by
          have l1 : s ≤ s ||| 2 ^ k := Nat.left_le_or
          have l2 : s ≠ s ||| 2 ^ k := fun e => sk (by rw [e]; exact bk)
          omega
        have := hx sl cl
        rw [z_rs, if_pos ⟨sk, fun m => u (pk.mpr (Or.inr m))⟩] at this
        rw [hT (s ||| 2 ^ k) k (by omega) (Nat.or_lt_two_pow hs (Nat.pow_lt_pow_right (by decide) (by omega))) (by omega) bk (Or.inl (by omega))]
        exact this
theorem z_laysR (h3 : 3 ≤ n) (h8 : n ≤ 8) (L : Nat) (xs : Nat → Int32) (m d : Nat) {R : v_Rf} (hq : ∀ U, z_fR V U → ∀ a b, a < n → b < n → a ≠ b → (f_X12_doQuarrel (V 152 a) (V 152 b) U = 0 ↔ ¬ od a b) ∧ ∀ a' j, ¬ (a' = 99 ∧ 27 ≤ j ∧ j ≤ 40) → a' ≠ 114 → a' ≠ 115 → g_X12_doQuarrel (V 152 a) (V 152 b) U a' j = U a' j) : u_P L xs m d m_X12_laysRing 0 (lv_args 0 [.ref 100, .int (z_i n)]) [] V R (z_V R (z_KM n od V)) := by
  refine w_X12_laysRing L xs (z_i n) (z_M2 n od V) (z_M9 n od V) (z_M72 n od V) (z_M78 n od V) (z_M118 n od V) (z_KM n od V) (z_m2 h8) (z_m9 h8 hq) (z_m72 h8) (z_m78 h3 h8) (z_m118 h3 h8) m d V ?_
  unfold D_X12_laysRing
  exact ⟨rfl, fun a j _ => rfl, 0, Nat.zero_le n, rfl, fun a' b h _ => absurd h (Nat.not_lt_zero a')⟩
noncomputable def z_M92 (n : Nat) (od : Nat → Nat → Prop) (V : v_Sf) (w : Nat) (x2 x4 x5 x6 : Int32) (S : v_Sf) : Prop := z_KM n od V S ∧ x2 = z_i w ∧ ∃ i, i ≤ w ∧ x6 = z_i i ∧ x4 = z_i (z_wlk n od i).1 ∧ x5 = z_i (z_wlk n od i).2
noncomputable def z_M101 (n : Nat) (od : Nat → Nat → Prop) (V : v_Sf) (w : Nat) (x2 x4 x5 x6 x7 : Int32) (S : v_Sf) : Prop := z_KM n od V S ∧ x2 = z_i w ∧ ∃ i k, i < w ∧ x6 = z_i i ∧ x4 = z_i (z_wlk n od i).1 ∧ x5 = z_i (z_wlk n od i).2 ∧ x7 = z_i k ∧ 1 ≤ k ∧ k ≤ z_nx n od (z_wlk n od i).1 (z_wlk n od i).2
theorem z_r92 (h3 : 3 ≤ n) (h8 : n ≤ 8) {w : Nat} (hw : w < n) (h0 : ¬ z_Wr n od 1 0 = 0) {K : Int32 → v_Sf → Prop} (hK : ∀ S, z_KM n od V S → K (V 152 (z_wlk n od w).2) S) (x2 x4 x5 x6 : Int32) (S : v_Sf) (h : z_M92 n od V w x2 x4 x5 x6 S) : D_X12_round_92 (z_M92 n od V w) (z_M101 n od V w) K x2 x4 x5 x6 S := by
  obtain ⟨hk, rfl, i, hi, rfl, rfl, rfl⟩ := h
  obtain ⟨w1, w2, w3, w4, w5, w6⟩ := z_wlk_ok h3 h0 i (by omega)
  obtain ⟨hf, -, -⟩ := id hk
  unfold D_X12_round_92
  rw [z_ile (by omega) (by omega), z_iin (show (z_wlk n od i).2 < 2147483648 by omega)]
  refine ⟨fun q _ _ => ?_, fun q => ?_⟩
  · obtain rfl : i = w := by omega
    rw [hf 152 _ (by omega)]
    exact hK S hk
  · obtain ⟨-, k1, -, -⟩ := z_nx_ok (by omega) w6
    exact ⟨hk, rfl, i, 1, by omega, rfl, rfl, rfl, rfl, Nat.le_refl 1, k1⟩
theorem z_r101 (h3 : 3 ≤ n) (h8 : n ≤ 8) {w : Nat} (hw : w < n) (h0 : ¬ z_Wr n od 1 0 = 0) {K : Int32 → v_Sf → Prop} (x2 x4 x5 x6 x7 : Int32) (S : v_Sf) (h : z_M101 n od V w x2 x4 x5 x6 x7 S) : D_X12_round_101 (z_M92 n od V w) (z_M101 n od V w) K x2 x4 x5 x6 x7 S := by
  obtain ⟨hk, rfl, i, k, hi, rfl, rfl, rfl, rfl, k1, kx⟩ := h
  obtain ⟨w1, w2, w3, w4, w5, w6⟩ := z_wlk_ok h3 h0 i (by omega)
  obtain ⟨hf, hP, hT⟩ := id hk
  obtain ⟨p, -, xn, mn⟩ := z_nx_ok (by omega) w6
  have e1 : z_i (z_wlk n od (i + 1)).1 = z_i ((z_wlk n od i).1 ||| 2 ^ z_nx n od (z_wlk n od i).1 (z_wlk n od i).2) := rfl
  have e2 : z_i (z_wlk n od (i + 1)).2 = z_i (z_nx n od (z_wlk n od i).1 (z_wlk n od i).2) := rfl
  have s256 := z_lt256 h8 w1
  have nxt : ¬ z_nP n od (z_wlk n od i).1 (z_wlk n od i).2 k → z_M101 n od V w (z_i w) (z_i (z_wlk n od i).1) (z_i (z_wlk n od i).2) (z_i i) (z_i k + Int32.ofInt 1) S := fun np => by
    have ne : k ≠ z_nx n od (z_wlk n od i).1 (z_wlk n od i).2 := fun e => np (by rw [e]; exact p)
    exact ⟨hk, rfl, i, k + 1, hi, rfl, rfl, rfl, z_i1 k, by omega, by omega⟩
  have hH := z_hasN0 (X := (z_wlk n od i).1) (g := k) (by omega)
  have pk := hP (z_wlk n od i).2 k w4 (by omega)
  unfold D_X12_round_101
  refine ⟨fun t => nxt (fun m => ?_), fun t _ _ => ?_⟩
  · have : ¬ (z_wlk n od i).1.testBit k = false := fun z => t (hH.mpr z)
    exact m.1 (by simpa using this)
  · have sk : ¬ (z_wlk n od i).1.testBit k = true := by
      rw [hH.mp (Classical.not_not.mp t)]
      exact fun z => Bool.noConfusion z
    have ne : (z_wlk n od i).2 ≠ k := fun e => sk (by rw [← e]; exact w3)
    have bk : ((z_wlk n od i).1 ||| 2 ^ k).testBit k = true := by
      rw [Nat.testBit_or, Nat.testBit_two_pow]
      simp
    have wT := hT ((z_wlk n od i).1 ||| 2 ^ k) k (Nat.pos_of_ne_zero (fun z => by rw [z, Nat.zero_testBit] at bk; exact Bool.noConfusion bk)) (Nat.or_lt_two_pow w1 (Nat.pow_lt_pow_right (by decide) (by omega))) (by omega) bk (Or.inl (by omega))
    rw [z_ix8', z_iin (show 8 * (z_wlk n od i).2 + k < 2147483648 by omega), z_shR (by omega), z_orN, z_ix8', z_iin (by have := z_or256 s256 (show k < 8 by omega); omega), wT]
    refine ⟨fun u => nxt (fun m => m.2.1 ((pk.mp u).resolve_left ne)), fun u _ _ => ⟨fun v => ?_, fun v => nxt (fun m => m.2.2 (Classical.not_not.mp v))⟩⟩
    have pp : z_nP n od (z_wlk n od i).1 (z_wlk n od i).2 k := ⟨sk, fun m => u (pk.mpr (Or.inr m)), v⟩
    have ek : k = z_nx n od (z_wlk n od i).1 (z_wlk n od i).2 := Classical.byContradiction (fun z => mn k k1 (by omega) pp)
    refine ⟨hk, rfl, i + 1, by omega, z_i1 i, ?_, ?_⟩
    · rw [e1, ← ek]
    · rw [e2, ← ek]
end RM
/-- the p-th of a set -/
noncomputable def z_nth (X p : Nat) : Nat := @dite _ (∃ g, g < 12 ∧ X.testBit g = true ∧ z_cn X g = p) (Classical.propDecidable _) (fun h => h.choose) (fun _ => 0)
theorem z_nth_ok {X g : Nat} (hg : g < 12) (tg : X.testBit g = true) : z_nth X (z_cn X g) = g := by
  have hx : ∃ g', g' < 12 ∧ X.testBit g' = true ∧ z_cn X g' = z_cn X g := ⟨g, hg, tg, rfl⟩
  unfold z_nth
  rw [dif_pos hx]
  obtain ⟨h1, h2, h3⟩ := hx.choose_spec
  generalize hx.choose = g' at *
  by_cases c : g' < g
  · have := z_cn_lt c h2
    omega
  · by_cases c2 : g < g'
    · have := z_cn_lt c2 tg
      omega
    · omega
noncomputable def z_oq (X : Nat) (V : v_Sf) (p q : Nat) : Prop := p < z_cn X 12 ∧ q < z_cn X 12 ∧ ¬ f_X12_doQuarrel (z_i (z_nth X p)) (z_i (z_nth X q)) V = 0
noncomputable def f_X12_round (a w : Int32) (V : v_Sf) : Int32 := if f_X12_areGusts a (Int32.ofInt 3) (Int32.ofInt 8) V = 0 then Int32.ofInt (-1) else if w = Int32.ofInt 20 then z_Wr (z_cn a.toInt.toNat 12) (z_oq a.toInt.toNat V) 1 0 else if z_in w 0 ((z_cn a.toInt.toNat 12 : Int) - 1) = 0 then Int32.ofInt (-1) else if z_Wr (z_cn a.toInt.toNat 12) (z_oq a.toInt.toNat V) 1 0 = 0 then Int32.ofInt (-2) else z_i (z_nth a.toInt.toNat (z_wlk (z_cn a.toInt.toNat 12) (z_oq a.toInt.toNat V) w.toInt.toNat).2)
theorem z_bc_n {X : Nat} (hX : X < 4096) : (f_J6_bitCount_0f7a4 (z_i X) - Int32.ofInt 1).toInt = (z_cn X 12 : Int) - 1 := by
  have n12 := z_cn12 X
  rw [z_bcN hX, show z_i (z_cn X 12) = Int32.ofInt ((z_cn X 12 : Nat) : Int) from rfl, z_ois]
  exact q_ofr (by omega) (by omega)
theorem z_ring_cls {c b : Nat} (hc : z_cd c) {S T : v_Sf} (h : z_Rel c b S T) {X : Nat} (hX : X < 4096) (h3 : 3 ≤ z_cn X 12) (h8 : z_cn X 12 ≤ 8) (ht : ∀ g, g < 12 → X.testBit g = true → ¬ T 116 g = 0) (L : Nat) (xs : Nat → Int32) (m d : Nat) {R : v_Rf} (hW : z_W R) (hL : R 50 2 = some (c + 1)) : u_P L xs m d m_X4_ring 0 (lv_args 0 [.ref 77, .ref 2, .int (z_i X)]) [] S R (z_Q R (fun v S1 => v = z_Wr (z_cn X 12) (z_oq X T) 1 0 ∧ (¬ z_Wr (z_cn X 12) (z_oq X T) 1 0 = 0 → ∀ i, i < z_cn X 12 → f_X4_ringAt (z_i i) S1 = z_i (z_nth X (z_wlk (z_cn X 12) (z_oq X T) i).2)))) := by
  have hcn := z_cdl hc
  obtain ⟨⟨nc, hB⟩, hP, hT, hK, hO, h17, h25⟩ := id h
  obtain ⟨W1, w1, -, w3, w4⟩ := z_spr77 (X := X) h8 12 0 S (by omega)
  have nthE : ∀ i, i < z_cn X 12 → ∃ g, g < 12 ∧ X.testBit g = true ∧ z_cn X g = i ∧ z_nth X i = g := fun i hi => by
    obtain ⟨g, g5, g6, g7⟩ := z_cn_ex (X := X) 12 i hi
    exact ⟨g, g5, g6, g7, by rw [← g7]; exact z_nth_ok g5 g6⟩
  have W77 : ∀ i, i < z_cn X 12 → W1 77 i = z_i (z_nth X i) := fun i hi => by
    obtain ⟨g, g5, g6, g7, g8⟩ := nthE i hi
    rw [g8, ← g7]
    exact w3 g (by omega) g5 g6
  have nT : ∀ i, i < z_cn X 12 → z_nth X i < 12 ∧ ¬ T 116 (z_nth X i) = 0 := fun i hi => by
    obtain ⟨g, g5, g6, g7, g8⟩ := nthE i hi
    rw [g8]
    exact ⟨g5, ht g g5 g6⟩
  have gS1 : g_spread77 (z_i X) S = W1 ∧ f_spread77 (z_i X) S = z_i (z_cn X 12) := by
    unfold g_spread77 f_spread77 F_spread77
    rw [show 12 - 0 = 12 from rfl]
    have w1' : r_spread77_4 (z_i X) 12 0 (Int32.ofInt 0) S = (z_i (z_cn X 12), W1) := w1
    rw [w1']
    exact ⟨rfl, rfl⟩
  generalize hn : z_cn X 12 = n at *
  have hod : ∀ i k, z_oq X T i k ↔ (i < n ∧ k < n ∧ ¬ f_X12_doQuarrel (z_i (z_nth X i)) (z_i (z_nth X k)) T = 0) := fun i k => by
    unfold z_oq
    rw [hn]
  generalize z_oq X T = od at *
  have hs : ∀ i k, od i k → od k i := fun i k m => by
    obtain ⟨m1, m2, m3⟩ := (hod i k).mp m
    obtain ⟨t1, t2⟩ := nT i m1
    obtain ⟨u1, u2⟩ := nT k m2
    exact (hod k i).mpr ⟨m2, m1, fun z => m3 ((z_quS hc hB t1 u1 t2 u2).mpr z)⟩
  -- the class's store ahead of the table
  have s0f : ∀ a j, a ≠ 77 → ¬ (a = 76 ∧ j = 4) → z_s W1 76 4 (z_i n) a j = S a j := fun a j q1 q2 => by
    rw [z_sn (by omega), w4 a j q1]
  have s77 : ∀ i, i < n → z_s W1 76 4 (z_i n) 77 i = z_i (z_nth X i) := fun i hi => by
    rw [z_sn (by omega)]
    exact W77 i hi
  have s4 : z_s W1 76 4 (z_i n) 76 4 = z_i n := z_ss
  have eD : ∀ H29 H37 K, D_X4_ring c (z_i X) H29 H37 K S = H29 (((Int32.ofInt 1) <<< (((g_X4_learnOdds c (z_s W1 76 4 (z_i n))) 76 4) &&& 31)) - (Int32.ofInt 1)) (((Int32.ofInt 1) <<< (((g_X4_learnOdds c (z_s W1 76 4 (z_i n))) 76 4) &&& 31)) - (Int32.ofInt 1)) (g_X4_learnOdds c (z_s W1 76 4 (z_i n))) := fun H29 H37 K => by
    unfold D_X4_ring
    rw [gS1.1, gS1.2]
  generalize z_s W1 76 4 (z_i n) = S0 at *
  have hqC : ∀ U, (∀ a j, a ≠ 51 → a ≠ c + 3 → a ≠ 79 → U a j = S0 a j) → ∀ i j, i < n → j < n → i ≠ j → (f_X3_atOdds c 1 (S0 77 i) (S0 77 j) U = 0 ↔ ¬ od i j) ∧ ∀ a, a ≠ 51 → a ≠ c + 3 → g_X3_atOdds c 1 (S0 77 i) (S0 77 j) U a = U a := fun U hU i k hi hk' _ => by
    obtain ⟨t1, t2⟩ := nT i hi
    obtain ⟨u1, u2⟩ := nT k hk'
    have hBU : z_Bs c 1 nc U T := z_Bs_f hB (fun a q => funext fun j => by rw [hU a j (by omega) (by omega) (by omega), s0f a j (by omega) (by omega)]) (fun j q => by rw [hU 1 j (by omega) (by omega) (by omega), s0f 1 j (by omega) (by omega)]) (fun a j q => rfl)
    obtain ⟨i1, i2, i3, i4⟩ := z_oddsB hc (Or.inl rfl) hBU t1 u1 t2 u2
    rw [s77 i hi, s77 k hk', i1, hod]
    exact ⟨⟨fun z m => m.2.2 z, fun m => Classical.byContradiction fun z => m ⟨hi, hk', z⟩⟩, i3⟩
  obtain ⟨f1, f2⟩ := z_fill79 (Int32.ofInt 0) S0
  have At0 : z_At n (z_pr n od 0 (0 + 1)) (g_fill79 (Int32.ofInt 0) S0) := fun a ha => ⟨0, by decide, (f1 a (by omega)).trans rfl, fun b hb => by
    rw [Nat.zero_testBit]
    refine ⟨fun m => Bool.noConfusion m, fun m => ?_⟩
    unfold z_pr at m
    obtain ⟨⟨-, -, m1, -⟩, m2⟩ := m
    omega⟩
  obtain ⟨o1, o2⟩ := z_lo10 hc h8 s4 hs hqC n 0 (g_fill79 (Int32.ofInt 0) S0) (by omega) (fun a j _ _ q => f2 a j q) At0
  have eG : g_X4_learnOdds c S0 = r_X4_learnOdds_10 c (8 - 0) 0 (g_fill79 (Int32.ofInt 0) S0) := rfl
  rw [← eG] at o1 o2
  generalize g_X4_learnOdds c S0 = U0 at *
  have hU : z_Rb n od U0 := ⟨(o1 76 4 (by omega) (by omega) (by omega)).trans s4, o2⟩
  have p8 : 2 ^ n ≤ 2 ^ 8 := Nat.pow_le_pow_right (by decide) h8
  have p3 : 2 ^ 3 ≤ 2 ^ n := Nat.pow_le_pow_right (by decide) h3
  have pe : 2 ^ n = 2 * 2 ^ (n - 1) := by
    rw [show n = (n - 1) + 1 by omega, Nat.pow_succ, Nat.mul_comm]
    rfl
  have sh : (Int32.ofInt 1 <<< (z_i n &&& 31)) - Int32.ofInt 1 = z_i (2 ^ n - 1) := z_sh8_all ⟨n, by omega⟩
  refine u_mono (w_X4_ring L xs hW hL hc (z_i X) (z_C29 n od U0) (z_C37 n od U0) (z_KC n od U0) (z_c29 h3 h8 hU) (z_c37 h3 h8 hU) m d S ?_) (fun r S1 R1 ⟨v, hv, hR, k1, k2, k3⟩ => ⟨v, hv, hR, k1, fun w0 i hi => ?_⟩)
  · rw [eD, hU.1, sh]
    refine ⟨rfl, fun a j _ => rfl, 2 ^ (n - 1), by omega, ?_, fun s l a1 a2 _ _ _ _ => absurd a2 (by omega)⟩
    show Int32.ofInt ((2 ^ n - 1 : Nat) : Int) = Int32.ofInt (2 * ((2 ^ (n - 1) : Nat) : Int) - 1)
    congr 1
    omega
  · have w4 := (z_wlk_ok h3 w0 i hi).2.2.2.1
    have e84 := k3 w0 i hi
    have ei : (z_i i).toInt.toNat = i := z_iin (by omega)
    unfold f_X4_ringAt
    rw [ei, e84, if_neg (show ¬ z_i i < 0 by rw [show (0 : Int32) = z_i 0 from rfl, z_ilt (by omega) (by omega)]; omega), if_neg (show ¬ Int32.ofInt 8 ≤ z_i i by rw [show Int32.ofInt 8 = z_i 8 from rfl, z_ile (by omega) (by omega)]; omega), if_neg (show ¬ z_i (z_wlk n od i).2 < 0 by rw [show (0 : Int32) = z_i 0 from rfl, z_ilt (by omega) (by omega)]; omega), if_pos (show z_i (z_wlk n od i).2 < Int32.ofInt 8 by rw [show Int32.ofInt 8 = z_i 8 from rfl, z_ilt (by omega) (by omega)]; omega), z_iin (show (z_wlk n od i).2 < 2147483648 by omega), k2 77 _ (by decide) (by decide), o1 77 _ (by omega) (by omega) (by omega)]
    exact s77 _ w4
theorem z_round_cls {c b : Nat} (hc : z_cd c) {S T : v_Sf} (h : z_Rel c b S T) (a w : Int32) (L : Nat) (xs : Nat → Int32) (m d : Nat) {R : v_Rf} (hW : z_W R) (hL : R 50 2 = some (c + 1)) : u_P L xs m d m_X11_round 0 (lv_args 0 [.ref 1, .int a, .int w]) [] S R (z_Q R (fun v _ => v = f_X12_round a w T)) := by
  obtain ⟨⟨nc, hB⟩, _⟩ := id h
  obtain ⟨e, k⟩ := z_chosen hB.1.1 a (lo := Int32.ofInt 3) (hi := Int32.ofInt 8) (by decide)
  by_cases q : f_X11_chosen a (Int32.ofInt 3) (Int32.ofInt 8) S = 0
  · refine w_X11_round L xs hW hL hc a w (fun v _ => v = f_X12_round a w T) m d S (fun _ _ => False) (fun z => absurd q z) ?_
    unfold D_X11_round
    refine ⟨fun _ => ?_, fun z => absurd q z⟩
    show Int32.ofInt (-1) = f_X12_round a w T
    rw [e] at q
    unfold f_X12_round
    rw [if_pos q]
  · obtain ⟨X, hX, rfl, l1, l2, ht⟩ := k q
    have l1 : 3 ≤ z_cn X 12 := by
      have : (Int32.ofInt 3).toInt = 3 := rfl
      omega
    have l2 : z_cn X 12 ≤ 8 := by
      have : (Int32.ofInt 8).toInt = 8 := rfl
      omega
    have q' : ¬ f_X12_areGusts (z_i X) (Int32.ofInt 3) (Int32.ofInt 8) T = 0 := by
      rw [← e]
      exact q
    have eX : (z_i X).toInt.toNat = X := z_iin (by omega)
    refine w_X11_round L xs hW hL hc (z_i X) w (fun v _ => v = f_X12_round (z_i X) w T) m d S (fun v S1 => v = z_Wr (z_cn X 12) (z_oq X T) 1 0 ∧ (¬ z_Wr (z_cn X 12) (z_oq X T) 1 0 = 0 → ∀ i, i < z_cn X 12 → f_X4_ringAt (z_i i) S1 = z_i (z_nth X (z_wlk (z_cn X 12) (z_oq X T) i).2))) (fun _ n d => z_ring_cls hc h hX l1 l2 ht L xs n d hW hL) ?_
    unfold D_X11_round
    refine ⟨fun z => absurd z q, fun _ => ⟨fun w20 v S4 hv => ?_, fun w20 => ⟨fun t v S4 hv => ⟨fun u => ?_, fun u => ?_⟩, fun t => ?_⟩⟩⟩
    · show v = f_X12_round (z_i X) w T
      unfold f_X12_round
      rw [eX, if_neg q', if_pos w20]
      exact hv.1
    · have r : 0 ≤ w.toInt ∧ w.toInt ≤ (z_cn X 12 : Int) - 1 := Classical.byContradiction (fun z => t (z_within.mpr (by rw [z_bc_n hX]; exact z)))
      have u2 : ¬ z_Wr (z_cn X 12) (z_oq X T) 1 0 = 0 := by
        rw [← hv.1]
        exact u
      show f_X4_ringAt w S4 = f_X12_round (z_i X) w T
      unfold f_X12_round
      rw [eX, if_neg q', if_neg w20, if_neg (show ¬ z_in w 0 ((z_cn X 12 : Int) - 1) = 0 from fun m => z_in0.mp m r), if_neg u2]
      have := hv.2 u2 w.toInt.toNat (by omega)
      rw [z_ofN r.1] at this
      exact this
    · have r : 0 ≤ w.toInt ∧ w.toInt ≤ (z_cn X 12 : Int) - 1 := Classical.byContradiction (fun z => t (z_within.mpr (by rw [z_bc_n hX]; exact z)))
      have u2 : z_Wr (z_cn X 12) (z_oq X T) 1 0 = 0 := by
        rw [← hv.1]
        exact Classical.not_not.mp u
      show Int32.ofInt (-2) = f_X12_round (z_i X) w T
      unfold f_X12_round
      rw [eX, if_neg q', if_neg w20, if_neg (show ¬ z_in w 0 ((z_cn X 12 : Int) - 1) = 0 from fun m => z_in0.mp m r), if_pos u2]
    · have r : ¬ (0 ≤ w.toInt ∧ w.toInt ≤ (z_cn X 12 : Int) - 1) := fun z => z_within.mp (Classical.not_not.mp t) (by rw [z_bc_n hX]; exact z)
      show Int32.ofInt (-1) = f_X12_round (z_i X) w T
      unfold f_X12_round
      rw [eX, if_neg q', if_neg w20, if_pos (show z_in w 0 ((z_cn X 12 : Int) - 1) = 0 from z_in0.mpr r)]
theorem z_round_ref {c b : Nat} (hc : z_cd c) {S T : v_Sf} (h : z_Rel c b S T) (a w : Int32) (L : Nat) (xs : Nat → Int32) (m d : Nat) {R : v_Rf} : u_P L xs m d m_X12_round 0 (lv_args 0 [.ref 100, .int a, .int w]) [] T R (z_Q R (fun v _ => f_X12_round a w T = v)) := by
  obtain ⟨⟨nc, hB⟩, _⟩ := id h
  obtain ⟨e, k⟩ := z_chosen hB.1.1 a (lo := Int32.ofInt 3) (hi := Int32.ofInt 8) (by decide)
  rw [e] at k
  by_cases q : f_X12_areGusts a (Int32.ofInt 3) (Int32.ofInt 8) T = 0
  · refine w_X12_round L xs a w (fun _ _ _ _ _ => False) (fun _ _ _ _ _ _ => False) (fun v _ => f_X12_round a w T = v) (fun _ _ _ _ _ z => z.elim) (fun _ _ _ _ _ _ z => z.elim) m d T (fun _ => False) (fun z => absurd q z) ?_
    unfold D_X12_round
    refine ⟨fun _ => ?_, fun z => absurd q z⟩
    show f_X12_round a w T = Int32.ofInt (-1)
    unfold f_X12_round
    rw [if_pos q]
  · obtain ⟨X, hX, rfl, l1, l2, ht⟩ := k q
    have h3 : 3 ≤ z_cn X 12 := by
      have : (Int32.ofInt 3).toInt = 3 := rfl
      omega
    have h8 : z_cn X 12 ≤ 8 := by
      have : (Int32.ofInt 8).toInt = 8 := rfl
      omega
    have eX : (z_i X).toInt.toNat = X := z_iin (by omega)
    obtain ⟨Y, y1, -, y3, y4⟩ := z_tks (X := X) 12 0 T (by omega)
    have gT : g_X12_takesSome (z_i X) T = Y := by
      unfold g_X12_takesSome F_X12_takesSome
      rw [show 12 - 0 = 12 from rfl]
      exact congrArg Prod.snd y1
    have fT : f_X12_takesSome (z_i X) T = z_i (z_cn X 12) := by
      unfold f_X12_takesSome F_X12_takesSome
      rw [show 12 - 0 = 12 from rfl]
      exact congrArg Prod.fst y1
    have Y152 : ∀ i, i < z_cn X 12 → Y 152 i = z_i (z_nth X i) ∧ z_nth X i < 12 ∧ ¬ T 116 (z_nth X i) = 0 := fun i hi => by
      obtain ⟨g, g5, g6, g7⟩ := z_cn_ex (X := X) 12 i hi
      have e2 : z_nth X i = g := by
        rw [← g7]
        exact z_nth_ok g5 g6
      rw [e2]
      refine ⟨?_, g5, ht g g5 g6⟩
      rw [← g7]
      exact y3 g (Nat.zero_le g) g5 g6
    have hq : ∀ U, z_fR Y U → ∀ a b, a < z_cn X 12 → b < z_cn X 12 → a ≠ b → (f_X12_doQuarrel (Y 152 a) (Y 152 b) U = 0 ↔ ¬ z_oq X T a b) ∧ ∀ a' j, ¬ (a' = 99 ∧ 27 ≤ j ∧ j ≤ 40) → a' ≠ 114 → a' ≠ 115 → g_X12_doQuarrel (Y 152 a) (Y 152 b) U a' j = U a' j := fun U hU i k hi hk' _ => by
      obtain ⟨a1, a2, a3⟩ := Y152 i hi
      obtain ⟨b1, b2, b3⟩ := Y152 k hk'
      have gU : ∀ a j, ¬ (a = 99 ∧ 27 ≤ j ∧ j ≤ 40 ∨ a = 114 ∨ a = 115 ∨ a = 152 ∨ a = 171 ∨ a = 172) → U a j = T a j := fun a j q => by rw [hU a j (by omega), y4 a j (by omega)]
      have hBU : z_Bs c 1 nc S U := z_Bs_f hB (fun a q => rfl) (fun j q => rfl) (fun a j q => gU a j (by omega))
      have t1 : ¬ U 116 (z_nth X i) = 0 := by rw [gU 116 _ (by omega)]; exact a3
      have t2 : ¬ U 116 (z_nth X k) = 0 := by rw [gU 116 _ (by omega)]; exact b3
      have e2 := z_quT hc hB hBU a2 b2 a3 b3 t1 t2
      obtain ⟨-, -, -, i4⟩ := z_oddsB hc (Or.inl rfl) hBU a2 b2 t1 t2
      rw [a1, b1, e2]
      exact ⟨⟨fun z m => m.2.2 z, fun m => Classical.byContradiction fun z => m ⟨hi, hk', z⟩⟩, i4⟩
    have hlp : ∀ n d, u_P L xs n d m_X12_laysRing 0 (lv_args 0 [.ref 100, .int (f_X12_takesSome (z_i X) T)]) [] (g_X12_takesSome (z_i X) T) R (z_V R (z_KM (z_cn X 12) (z_oq X T) Y)) := fun n d => by
      rw [gT, fT]
      exact z_laysR h3 h8 L xs n d hq
    have ep : f_X12_sizeOf (z_i X) = f_J6_bitCount_0f7a4 (z_i X) := (z_bc12 (x := z_i X) (by rw [z_it3 (by omega)]; omega)).symm
    have e8 : ∀ S3, z_KM (z_cn X 12) (z_oq X T) Y S3 → S3 171 8 = z_Wr (z_cn X 12) (z_oq X T) 1 0 := fun S3 hk => by
      have p3 : 2 ^ 3 ≤ 2 ^ z_cn X 12 := Nat.pow_le_pow_right (by decide) h3
      exact hk.2.2 1 0 (Nat.le_refl 1) (by omega) (by omega) (by decide) (Or.inr (by omega))
    by_cases w0 : z_Wr (z_cn X 12) (z_oq X T) 1 0 = 0
    · refine w_X12_round L xs (z_i X) w (fun _ _ _ _ _ => False) (fun _ _ _ _ _ _ => False) (fun v _ => f_X12_round (z_i X) w T = v) (fun _ _ _ _ _ z => z.elim) (fun _ _ _ _ _ _ z => z.elim) m d T (z_KM (z_cn X 12) (z_oq X T) Y) (fun _ => hlp) ?_
      unfold D_X12_round
      rw [ep, z_bc_n hX]
      refine ⟨fun z => absurd z q, fun _ => ⟨fun w20 S3 hk _ _ => ⟨fun u => absurd (by rw [e8 S3 hk]; exact w0) u, fun u => ?_⟩, fun w20 => ⟨fun t S3 hk _ _ => ⟨fun u => absurd (by rw [e8 S3 hk]; exact w0) u, fun u => ?_⟩, fun t => ?_⟩⟩⟩
      · show f_X12_round (z_i X) w T = Int32.ofInt 0
        unfold f_X12_round
        rw [eX, if_neg q, if_pos w20, w0]
        rfl
      · show f_X12_round (z_i X) w T = Int32.ofInt (-2)
        unfold f_X12_round
        rw [eX, if_neg q, if_neg w20, if_neg t, if_pos w0]
      · show f_X12_round (z_i X) w T = Int32.ofInt (-1)
        unfold f_X12_round
        rw [eX, if_neg q, if_neg w20, if_pos (Classical.not_not.mp t)]
    · by_cases r : 0 ≤ w.toInt ∧ w.toInt ≤ (z_cn X 12 : Int) - 1
      · have ew : z_i w.toInt.toNat = w := z_ofN r.1
        have t0 : ¬ z_in w 0 ((z_cn X 12 : Int) - 1) = 0 := fun m => z_in0.mp m r
        have wn : w.toInt.toNat < z_cn X 12 := by omega
        have w4 := (z_wlk_ok h3 w0 w.toInt.toNat wn).2.2.2.1
        refine w_X12_round L xs (z_i X) w (z_M92 (z_cn X 12) (z_oq X T) Y w.toInt.toNat) (z_M101 (z_cn X 12) (z_oq X T) Y w.toInt.toNat) (fun v _ => f_X12_round (z_i X) w T = v) (z_r92 h3 h8 wn w0 (fun S3 hk => ?_)) (z_r101 h3 h8 wn w0) m d T (z_KM (z_cn X 12) (z_oq X T) Y) (fun _ => hlp) ?_
        · show f_X12_round (z_i X) w T = Y 152 (z_wlk (z_cn X 12) (z_oq X T) w.toInt.toNat).2
          have n20 : ¬ w = Int32.ofInt 20 := fun m => by
            rw [m, show (Int32.ofInt 20).toInt = 20 from rfl] at r
            omega
          rw [(Y152 _ w4).1]
          unfold f_X12_round
          rw [eX, if_neg q, if_neg n20, if_neg t0, if_neg w0]
        · unfold D_X12_round
          rw [ep, z_bc_n hX]
          refine ⟨fun z => absurd z q, fun _ => ⟨fun w20 S3 hk _ _ => ⟨fun u _ _ => ?_, fun u => absurd (by rw [e8 S3 hk]; exact w0) u⟩, fun w20 => ⟨fun t S3 hk _ _ => ⟨fun u => ?_, fun u => absurd (by rw [e8 S3 hk]; exact w0) u⟩, fun t => absurd t0 t⟩⟩⟩
          · show f_X12_round (z_i X) w T = S3 171 8
            rw [e8 S3 hk]
            unfold f_X12_round
            rw [eX, if_neg q, if_pos w20]
          · exact ⟨hk, ew.symm, 0, Nat.zero_le _, rfl, rfl, rfl⟩
      · have t0 : z_in w 0 ((z_cn X 12 : Int) - 1) = 0 := z_in0.mpr r
        refine w_X12_round L xs (z_i X) w (fun _ _ _ _ _ => False) (fun _ _ _ _ _ _ => False) (fun v _ => f_X12_round (z_i X) w T = v) (fun _ _ _ _ _ z => z.elim) (fun _ _ _ _ _ _ z => z.elim) m d T (z_KM (z_cn X 12) (z_oq X T) Y) (fun _ => hlp) ?_
        unfold D_X12_round
        rw [ep, z_bc_n hX]
        refine ⟨fun z => absurd z q, fun _ => ⟨fun w20 S3 hk _ _ => ⟨fun u _ _ => ?_, fun u => absurd (by rw [e8 S3 hk]; exact w0) u⟩, fun w20 => ⟨fun t => absurd t0 t, fun t => ?_⟩⟩⟩
        · show f_X12_round (z_i X) w T = S3 171 8
          rw [e8 S3 hk]
          unfold f_X12_round
          rw [eX, if_neg q, if_pos w20]
        · show f_X12_round (z_i X) w T = Int32.ofInt (-1)
          unfold f_X12_round
          rw [eX, if_neg q, if_neg w20, if_pos t0]
section CA_round
variable {L : Nat} {xs : Nat → Int32} {S : v_Sf} {R : v_Rf} {Q : Option Value → v_Sf → v_Rf → Prop}
theorem a_X11_round (v1 v2 : Int32) (hT : v_Tb v_ty S R) (hO : v_Op S) (hK : z_K S R) (hq : ∀ S' R', v_Tb v_ty S' R' → v_Op S' → z_K S' R' → Q (some (.int (f_X12_round v1 v2 S'))) S' R') : w_T L xs 59 m_X11_round 0 (lv_args 0 [.ref 1, .int v1, .int v2]) [] S R Q := by
  obtain ⟨c, b, e, hr, hR⟩ := id hK
  obtain ⟨hc, hb, he, hn, hL, hB, hE, hW⟩ := id hr
  refine z_use (v_met 60 143 rw_170 (List.mem_of_getElem? (i := 0) rfl) (Nat.le_of_ble_eq_true rfl)) (Nat.le_of_ble_eq_true rfl) mt_X11_round ⟨rfl, ⟨_, rfl, (q_rng _).1, (q_rng _).2⟩, ⟨_, rfl, (q_rng _).1, (q_rng _).2⟩, trivial⟩ hT hO (Qf := fun r _ _ => ∀ T, z_Rel c b S T → ∃ v, some (Value.int v) = r ∧ v = f_X12_round v1 v2 T) (fun n d r σ hrun => by
    obtain ⟨S', R', e1, _⟩ := z_round_cls hc hR v1 v2 L xs n d hW hL r σ hrun
    refine ⟨S', R', e1, fun T hh => ?_⟩
    obtain ⟨_, _, _, v, hv, _, hf⟩ := z_round_cls hc hh v1 v2 L xs n d hW hL r σ hrun
    exact ⟨v, hv, hf⟩) (fun r S1 R1 S2 R2 hT1 hO1 hr1 hF ee q => ?_)
  have hS1 := z_K_T hc hb hR hF rfl
  obtain ⟨v, hv, hf⟩ := q S1 hS1
  rw [← hv, hf]
  exact hq S1 R1 hT1 hO1 (z_K_fr hK hF rfl)
theorem a_X12_round (v1 v2 : Int32) (hT : v_Tb v_ty S R) (hO : v_Op S) (hK : z_K S R) (hq : ∀ S' R', v_Tb v_ty S' R' → v_Op S' → z_K S' R' → Q (some (.int (f_X12_round v1 v2 S))) S' R') : w_T L xs 59 m_X12_round 0 (lv_args 0 [.ref 100, .int v1, .int v2]) [] S R Q := by
  obtain ⟨c, b, e, hr, hR⟩ := id hK
  obtain ⟨hc, hb, he, hn, hL, hB, hE, hW⟩ := id hr
  refine z_use (v_met 60 290 rw_263 (List.mem_of_getElem? (i := 0) rfl) (Nat.le_of_ble_eq_true rfl)) (Nat.le_of_ble_eq_true rfl) mt_X12_round ⟨rfl, ⟨_, rfl, (q_rng _).1, (q_rng _).2⟩, ⟨_, rfl, (q_rng _).1, (q_rng _).2⟩, trivial⟩ hT hO (fun n d => z_round_ref hc hR v1 v2 L xs n d) (fun r S1 R1 S2 R2 hT1 hO1 hr1 hF ee q => ?_)
  obtain ⟨v, hv, hRR, hf⟩ := q
  rw [← hv, ← hf]
  exact hq S1 R1 hT1 hO1 (z_K_fr hK hF rfl)
end CA_round
