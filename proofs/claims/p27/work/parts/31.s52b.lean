/-! placed: the reference -/
theorem z_askN {V : v_Sf} {M A g : Nat} (hg : g < 12) (hM : ∀ k, k < 5 → (V 162 k = 0 ↔ M.testBit k = false)) (hA : V 166 g = z_i A) : z_sI (fun k => M.testBit k = true ∧ A.testBit k = false) (z_hi (z_rk V)) 5 (f_X12_asksNext (z_i g) V) := by
  unfold f_X12_asksNext F_X12_asksNext
  rw [show 5 - 0 = 5 from rfl]
  refine z_scan (n := 5) (P := fun k => M.testBit k = true ∧ A.testBit k = false) (gt := z_hi (z_rk V)) (by decide) (fun a b c => z_hi_t) (F := r_X12_asksNext_4 (z_i g) V) (fun k x => by rw [r_X12_asksNext_4]) (fun r k x hk hI => ?_) 5 0 _ (by omega) (Or.inl ⟨rfl, fun j hj => absurd hj (Nat.not_lt_zero j)⟩)
  have ek : (z_i k).toInt.toNat = k := z_iin (by omega)
  have eg : (z_i g).toInt.toNat = g := z_iin (by omega)
  have hh := z_hasN0 (X := A) (g := k) (by omega)
  rw [r_X12_asksNext_4, ek, eg, hA]
  by_cases q : V 162 k = 0
  · rw [if_pos q]
    exact Or.inr ⟨Or.inl (fun m => by have m1 : M.testBit k = true := m.1; rw [(hM k (by omega)).mp q] at m1; exact Bool.noConfusion m1), rfl⟩
  · rw [if_neg q]
    have tm : M.testBit k = true := by
      have : ¬ M.testBit k = false := fun z => q ((hM k (by omega)).mpr z)
      simpa using this
    by_cases t : f_X12_has (z_i A) (z_i k) = 0
    · rw [if_neg (show ¬ ¬ f_X12_has (z_i A) (z_i k) = 0 from fun m => m t)]
      by_cases s : f_X12_isHigher (z_i k) x V = 0
      · rw [if_pos s]
        refine Or.inr ⟨?_, rfl⟩
        rcases hI with ⟨e, _⟩ | ⟨m, hm, e, _⟩
        · rw [e] at s
          exact absurd s (z_hg1 _)
        · rw [e, z_hgN (by omega) (by omega)] at s
          exact Or.inr ⟨m, hm, e, z_hi_c (by omega) s⟩
      · rw [if_neg s]
        refine Or.inl ⟨⟨tm, hh.mp t⟩, fun m hm e => ?_, rfl⟩
        rw [e, z_hgN (by omega) (by omega)] at s
        exact Classical.not_not.mp s
    · rw [if_pos t]
      exact Or.inr ⟨Or.inl (fun m => t (hh.mpr m.2)), rfl⟩
theorem z_any_l {V : v_Sf} {x : Int32} : ∀ r k, k + r = 5 → ((r_X12_isAnywhere_2 x V r k = 0) ↔ ∀ j, k ≤ j → j < 5 → ¬ V 165 j = x) := by
  intro r
  induction r with
  | zero =>
    intro k hk
    rw [r_X12_isAnywhere_2]
    exact ⟨fun _ j h1 h2 => absurd h2 (by omega), fun _ => rfl⟩
  | succ r ih =>
    intro k hk
    rw [r_X12_isAnywhere_2, z_iin (show k < 2147483648 by omega)]
    by_cases q : V 165 k = x
    · rw [if_neg (show ¬ ¬ V 165 k = x from fun m => m q)]
      exact ⟨fun m => absurd m (by decide), fun m => absurd q (m k (Nat.le_refl k) (by omega))⟩
    · rw [if_pos q, ih (k + 1) (by omega)]
      refine ⟨fun m j h1 h2 => ?_, fun m j h1 h2 => m j (by omega) h2⟩
      by_cases e : j = k
      · rw [e]
        exact q
      · exact m j (by omega) h2
theorem z_anyN {V : v_Sf} {x : Int32} : (f_X12_isAnywhere x V = 0) ↔ ∀ j, j < 5 → ¬ V 165 j = x := by
  unfold f_X12_isAnywhere F_X12_isAnywhere
  rw [show 5 - 0 = 5 from rfl, z_any_l 5 0 (by omega)]
  exact ⟨fun m j h => m j (Nat.zero_le j) h, fun m j _ h => m j h⟩
noncomputable def z_Pf (S0 S : v_Sf) : Prop := ∀ a j, a ≠ 165 → a ≠ 166 → S a j = S0 a j
theorem z_Pf_k {S0 S : v_Sf} (h : z_Pf S0 S) : z_rk S = z_rk S0 ∧ z_cw S = z_cw S0 ∧ z_srg S = z_srg S0 := by
  refine ⟨funext fun k => ?_, funext fun k => funext fun g => ?_, funext fun g => ?_⟩
  · unfold z_rk
    rw [h 163 k (by decide) (by decide)]
  · unfold z_cw
    rw [h 122 g (by decide) (by decide), h 164 k (by decide) (by decide)]
  · unfold z_srg
    rw [h 117 g (by decide) (by decide)]
noncomputable def z_Jp (X M : Nat) (S0 S : v_Sf) (A : Nat → Nat) : Prop := (∀ g, g < 12 → X.testBit g = true → A g < 32 ∧ S 166 g = z_i (A g)) ∧ (∀ k, k < 5 → S 165 k = Int32.ofInt (-1) ∨ ∃ g, g < 12 ∧ X.testBit g = true ∧ S 165 k = z_i g ∧ (A g).testBit k = true) ∧ (∀ k k' g, k < 5 → k' < 5 → g < 12 → S 165 k = z_i g → S 165 k' = z_i g → k = k') ∧ ∀ g k, g < 12 → X.testBit g = true → k < 5 → (A g).testBit k = true → M.testBit k = true ∧ (∀ k', k' < 5 → M.testBit k' = true → z_hi (z_rk S0) k' k → (A g).testBit k' = true) ∧ ∃ j, j < 12 ∧ S 165 k = z_i j ∧ (j = g ∨ z_de (z_cw S0 k) (z_srg S0) j g)
theorem z_Jp_s {X M : Nat} {S0 S : v_Sf} {A : Nat → Nat} (J : z_Jp X M S0 S A) {g h : Nat} (hg : g < 12) (xg : X.testBit g = true) (nany : ∀ k, k < 5 → ¬ S 165 k = z_i g) (hh : h < 5) (mh : M.testBit h = true) (best : ∀ j, j < 5 → M.testBit j = true → ¬ (A g).testBit j = true → j ≠ h → z_hi (z_rk S0) h j) {S1 : v_Sf} (f166 : S1 166 g = z_i (A g ||| 2 ^ h)) (fo166 : ∀ j, j ≠ g → S1 166 j = S 166 j) (f165 : ∀ j, j ≠ h → S1 165 j = S 165 j) (dec : (S1 165 h = z_i g ∧ ∀ j, j < 12 → S 165 h = z_i j → z_de (z_cw S0 h) (z_srg S0) g j) ∨ (S1 165 h = S 165 h ∧ ∃ j, j < 12 ∧ S 165 h = z_i j ∧ z_de (z_cw S0 h) (z_srg S0) j g)) : z_Jp X M S0 S1 (fun i => if i = g then A g ||| 2 ^ h else A i) := by
  obtain ⟨j1, j2, j3, j4⟩ := J
  have bit : ∀ i k, (if i = g then A g ||| 2 ^ h else A i).testBit k = true ↔ (A i).testBit k = true ∨ (i = g ∧ k = h) := fun i k => by
    by_cases e : i = g
    · rw [if_pos e, Nat.testBit_or, Bool.or_eq_true, Nat.testBit_two_pow, decide_eq_true_iff, e]
      exact ⟨fun m => m.imp id (fun z => ⟨rfl, z.symm⟩), fun m => m.imp id (fun z => z.2.symm)⟩
    · rw [if_neg e]
      exact ⟨Or.inl, fun m => m.elim id (fun z => absurd z.1 e)⟩
  refine ⟨fun i hi xi => ?_, fun k hk => ?_, fun k k' i hk hk' hi e e' => ?_, fun i k hi xi hk b => ?_⟩
  · show (if i = g then A g ||| 2 ^ h else A i) < 32 ∧ S1 166 i = z_i (if i = g then A g ||| 2 ^ h else A i)
    by_cases e : i = g
    · rw [if_pos e]
      refine ⟨Nat.or_lt_two_pow (n := 5) (j1 g hg xg).1 (Nat.pow_lt_pow_right (by decide) hh), ?_⟩
      rw [e]
      exact f166
    · rw [if_neg e]
      exact ⟨(j1 i hi xi).1, (fo166 i e).trans (j1 i hi xi).2⟩
  · by_cases e : k = h
    · rw [e]
      rcases dec with ⟨d1, _⟩ | ⟨d1, _⟩
      · exact Or.inr ⟨g, hg, xg, d1, (bit g h).mpr (Or.inr ⟨rfl, rfl⟩)⟩
      · rw [d1]
        rcases j2 h hh with q | ⟨i, hi, xi, q, b⟩
        · exact Or.inl q
        · exact Or.inr ⟨i, hi, xi, q, (bit i h).mpr (Or.inl b)⟩
    · rw [f165 k e]
      rcases j2 k hk with q | ⟨i, hi, xi, q, b⟩
      · exact Or.inl q
      · exact Or.inr ⟨i, hi, xi, q, (bit i k).mpr (Or.inl b)⟩
  · have one : ∀ k', k' < 5 → k' ≠ h → S1 165 h = z_i i → S1 165 k' = z_i i → k' = h := fun k' hk' ne e1 e2 => by
      rw [f165 k' ne] at e2
      rcases dec with ⟨d1, _⟩ | ⟨d1, _⟩
      · rw [z_ieqP (by omega) (by omega) (e1.symm.trans d1)] at e2
        exact absurd e2 (nany k' hk')
      · exact j3 k' h i hk' hh hi e2 (d1.symm.trans e1)
    by_cases q : k = h
    · by_cases q' : k' = h
      · rw [q, q']
      · rw [q] at e
        rw [q, one k' hk' q' e e']
    · by_cases q' : k' = h
      · rw [q'] at e'
        rw [q', one k hk q e' e]
      · rw [f165 k q] at e
        rw [f165 k' q'] at e'
        exact j3 k k' i hk hk' hi e e'
  · rcases (bit i k).mp b with b | ⟨e1, e2⟩
    · obtain ⟨m, up, j, hj, e, o⟩ := j4 i k hi xi hk b
      refine ⟨m, fun k' hk' mk' hh' => (bit i k').mpr (Or.inl (up k' hk' mk' hh')), ?_⟩
      by_cases e2 : k = h
      · rw [e2] at e o ⊢
        rcases dec with ⟨d1, d2⟩ | ⟨d1, _⟩
        · refine ⟨g, hg, d1, ?_⟩
          rcases o with o | o
          · rw [← o]
            exact Or.inr (d2 j hj e)
          · exact Or.inr (z_de_t (d2 j hj e) o)
        · exact ⟨j, hj, d1.trans e, o⟩
      · exact ⟨j, hj, (f165 k e2).trans e, o⟩
    · rw [e2]
      refine ⟨mh, fun k' hk' mk' hi' => ?_, ?_⟩
      · refine (bit i k').mpr ?_
        by_cases a : (A g).testBit k' = true
        · rw [e1]
          exact Or.inl a
        · by_cases c : k' = h
          · exact Or.inr ⟨e1, c⟩
          · exact absurd hi' (z_hi_a (best k' hk' mk' a c))
      · rcases dec with ⟨d1, d2⟩ | ⟨d1, j, hj, e, d⟩
        · exact ⟨g, hg, d1, Or.inl e1.symm⟩
        · rw [e1]
          exact ⟨j, hj, d1.trans e, Or.inr d⟩
/-- who asks no more, of the first m -/
noncomputable def z_Qt (X M m : Nat) (S : v_Sf) (A : Nat → Nat) : Prop := ∀ g, g < 12 → X.testBit g = true → z_cn X g < m → (∃ k, k < 5 ∧ S 165 k = z_i g) ∨ ∀ k, k < 5 → M.testBit k = true → (A g).testBit k = true
theorem z_stb {X M : Nat} {S0 S : v_Sf} {A : Nat → Nat} (J : z_Jp X M S0 S A) (Qt : z_Qt X M (z_cn X 12) S A) : z_stab X M (z_hi (z_rk S0)) (fun k => z_de (z_cw S0 k) (z_srg S0)) (S 165) := by
  obtain ⟨j1, j2, j3, j4⟩ := J
  refine ⟨fun k hk => ?_, j3, fun g k hg xg hk mk low => ?_⟩
  · rcases j2 k hk with q | ⟨g, hg, xg, q, b⟩
    · exact Or.inl q
    · exact Or.inr ⟨g, hg, xg, (j4 g k hg xg hk b).1, q⟩
  · have b : (A g).testBit k = true := by
      rcases Qt g hg xg (z_cn_lt hg xg) with ⟨k', hk', e⟩ | q
      · rcases j2 k' hk' with z | ⟨i, hi, xi, z, bi⟩
        · exact absurd (e.symm.trans z) (z_nm1 (by omega))
        · rw [← z_ieqP (by omega) (by omega) (e.symm.trans z)] at bi
          exact (j4 g k' hg xg hk' bi).2.1 k hk mk (low k' hk' e)
      · exact q k hk mk
    obtain ⟨-, -, j, hj, e, o⟩ := j4 g k hg xg hk b
    refine ⟨j, hj, e, o.resolve_left (fun z => ?_)⟩
    rw [z] at e
    have := low k hk e
    exact z_hi_a this this
noncomputable def z_P2 (X : Nat) (S0 : v_Sf) (x1 x2 : Int32) (S : v_Sf) : Prop := x1 = z_i (z_cn X 12) ∧ z_Pf S0 S ∧ ∃ k, k ≤ 5 ∧ x2 = z_i k ∧ ∀ j, j < k → S 165 j = Int32.ofInt (-1)
noncomputable def z_P22 (X : Nat) (S0 : v_Sf) (x1 x2 : Int32) (S : v_Sf) : Prop := x1 = z_i (z_cn X 12) ∧ z_Pf S0 S ∧ (∀ j, j < 5 → S 165 j = Int32.ofInt (-1)) ∧ ∃ m, m ≤ z_cn X 12 ∧ x2 = z_i m ∧ ∀ g, g < 12 → X.testBit g = true → z_cn X g < m → S 166 g = Int32.ofInt 0
noncomputable def z_P47 (X M : Nat) (S0 : v_Sf) (x1 x2 : Int32) (S : v_Sf) : Prop := x1 = z_i (z_cn X 12) ∧ z_Pf S0 S ∧ ∃ A, z_Jp X M S0 S A ∧ (x2 = 0 → z_Qt X M (z_cn X 12) S A)
noncomputable def z_P55 (X M : Nat) (S0 : v_Sf) (x1 x2 x3 : Int32) (S : v_Sf) : Prop := x1 = z_i (z_cn X 12) ∧ z_Pf S0 S ∧ ∃ A m, z_Jp X M S0 S A ∧ m ≤ z_cn X 12 ∧ x3 = z_i m ∧ (x2 = 0 → z_Qt X M m S A)
noncomputable def z_KP (X M : Nat) (S0 : v_Sf) (S : v_Sf) : Prop := z_Pf S0 S ∧ z_stab X M (z_hi (z_rk S0)) (fun k => z_de (z_cw S0 k) (z_srg S0)) (S 165)
section PR
variable {X M : Nat} {S0 : v_Sf}
theorem z_p2 (x1 x2 : Int32) (S : v_Sf) (h : z_P2 X S0 x1 x2 S) : D_X12_laysPlaces_2 (z_P2 X S0) (z_P22 X S0) (z_P47 X M S0) (z_P55 X M S0) (z_KP X M S0) x1 x2 S := by
  obtain ⟨rfl, hf, k, hk, rfl, hv⟩ := h
  unfold D_X12_laysPlaces_2
  rw [show Int32.ofInt 5 = z_i 5 from rfl, z_ile (by omega) (by omega)]
  refine ⟨fun q => ⟨rfl, hf, fun j hj => hv j (by omega), 0, Nat.zero_le _, rfl, fun g _ _ m => absurd m (Nat.not_lt_zero _)⟩, fun q _ _ => ⟨rfl, fun a j h1 h2 => ?_, k + 1, by omega, z_i1 k, fun j hj => ?_⟩⟩
  · rw [z_sn (by omega)]
    exact hf a j h1 h2
  · rw [z_iin (show k < 2147483648 by omega)]
    by_cases e : j = k
    · rw [e, z_ss]
    · rw [z_sn (by omega)]
      exact hv j (by omega)
theorem z_p22 (h152 : ∀ g, g < 12 → X.testBit g = true → S0 152 (z_cn X g) = z_i g) (x1 x2 : Int32) (S : v_Sf) (h : z_P22 X S0 x1 x2 S) : D_X12_laysPlaces_22 (z_P2 X S0) (z_P22 X S0) (z_P47 X M S0) (z_P55 X M S0) (z_KP X M S0) x1 x2 S := by
  obtain ⟨rfl, hf, hv, m, hm, rfl, h0⟩ := h
  have n12 := z_cn12 X
  unfold D_X12_laysPlaces_22
  rw [z_ile (by omega) (by omega)]
  refine ⟨fun q => ⟨rfl, hf, fun _ => 0, ⟨fun g hg xg => ⟨show (0 : Nat) < 32 by decide, h0 g hg xg (by have := z_cn_lt hg xg; omega)⟩, fun k hk => Or.inl (hv k hk), fun k k' g hk _ hg e _ => absurd (e.symm.trans (hv k hk)) (z_nm1 (by omega)), fun g k _ _ _ b => absurd b (by rw [Nat.zero_testBit]; exact fun m => Bool.noConfusion m)⟩, fun z => absurd z (by decide)⟩, fun q _ _ b1 b2 => ?_⟩
  have em : (z_i m).toInt.toNat = m := z_iin (by omega)
  obtain ⟨g, hg, xg, eg⟩ := z_cn_ex (X := X) 12 m (by omega)
  have e152 : S 152 m = z_i g := by
    rw [hf 152 m (by decide) (by decide), ← eg]
    exact h152 g hg xg
  rw [em, e152, z_iin (show g < 2147483648 by omega)]
  refine ⟨rfl, fun a j h1 h2 => ?_, fun j hj => ?_, m + 1, by omega, z_i1 m, fun i hi xi ci => ?_⟩
  · rw [z_sn (by omega)]
    exact hf a j h1 h2
  · rw [z_sn (by omega)]
    exact hv j hj
  · by_cases e : i = g
    · rw [e, z_ss]
    · rw [z_sn (by omega)]
      refine h0 i hi xi ?_
      have : z_cn X i ≠ m := fun z => e (by
        by_cases c : i < g
        · have := z_cn_lt c xi
          omega
        · by_cases c2 : g < i
          · have := z_cn_lt c2 xg
            omega
          · omega)
      omega
theorem z_p47 (x1 x2 : Int32) (S : v_Sf) (h : z_P47 X M S0 x1 x2 S) : D_X12_laysPlaces_47 (z_P2 X S0) (z_P22 X S0) (z_P47 X M S0) (z_P55 X M S0) (z_KP X M S0) x1 x2 S := by
  obtain ⟨e, hf, A, J, hq⟩ := h
  unfold D_X12_laysPlaces_47
  exact ⟨fun q => ⟨hf, z_stb J (hq q)⟩, fun q => ⟨e, hf, A, 0, J, Nat.zero_le _, rfl, fun _ g _ _ m => absurd m (Nat.not_lt_zero _)⟩⟩
theorem z_p55 (h152 : ∀ g, g < 12 → X.testBit g = true → S0 152 (z_cn X g) = z_i g) (hM : ∀ k, k < 5 → (S0 162 k = 0 ↔ M.testBit k = false)) (x1 x2 x3 : Int32) (S : v_Sf) (h : z_P55 X M S0 x1 x2 x3 S) : D_X12_laysPlaces_55 (z_P2 X S0) (z_P22 X S0) (z_P47 X M S0) (z_P55 X M S0) (z_KP X M S0) x1 x2 x3 S := by
  obtain ⟨rfl, hf, A, m, J, hm, rfl, hq⟩ := h
  have n12 := z_cn12 X
  unfold D_X12_laysPlaces_55
  rw [z_ile (by omega) (by omega)]
  refine ⟨fun q => ⟨rfl, hf, A, J, fun z => ?_⟩, fun q => ?_⟩
  · have : m = z_cn X 12 := by omega
    rw [← this]
    exact hq z
  · have em : (z_i m).toInt.toNat = m := z_iin (by omega)
    obtain ⟨g, hg, xg, eg⟩ := z_cn_ex (X := X) 12 m (by omega)
    have e152 : S 152 m = z_i g := by
      rw [hf 152 m (by decide) (by decide), ← eg]
      exact h152 g hg xg
    have hgn : (z_i g).toInt.toNat = g := z_iin (by omega)
    have A166 := (J.1 g hg xg)
    have ext : ∀ i, i < 12 → X.testBit i = true → z_cn X i < m + 1 → z_cn X i < m ∨ i = g := fun i hi xi ci => by
      by_cases c : i < g
      · have := z_cn_lt c xi
        omega
      · by_cases c2 : g < i
        · have := z_cn_lt c2 xg
          omega
        · omega
    rw [em, e152, hgn, A166.2]
    refine fun _ _ => ⟨fun t => ⟨fun t2 _ _ _ _ _ _ => ?_, fun t2 => ?_⟩, fun t => ?_⟩
    · have nany := z_anyN.mp t
      rcases z_askN (V := S) (M := M) (A := A g) hg (fun k hk => by rw [hf 162 k (by decide) (by decide)]; exact hM k hk) A166.2 with ⟨e, _⟩ | ⟨h, hh, eh, ph, gh⟩
      · exact absurd e t2
      · have ph : M.testBit h = true ∧ (A g).testBit h = false := ph
        have hhn : (z_i h).toInt.toNat = h := z_iin (by omega)
        have sh : Int32.ofInt 1 <<< (z_i h &&& 31) = z_i (2 ^ h) := z_sh_all ⟨h, by omega⟩
        obtain ⟨r1, r2, r3⟩ := z_Pf_k hf
        have best : ∀ j, j < 5 → M.testBit j = true → ¬ (A g).testBit j = true → j ≠ h → z_hi (z_rk S0) h j := fun j hj mj aj ne => by
          have := gh j hj ⟨mj, by simpa using aj⟩ ne
          rw [r1] at this
          exact this
        rw [eh, hhn, sh, z_orN]
        have hf1 : z_Pf S0 (z_s S 166 g (z_i (A g ||| 2 ^ h))) := fun a j h1 h2 => by
          rw [z_sn (by omega)]
          exact hf a j h1 h2
        obtain ⟨u1, u2, u3⟩ := z_Pf_k hf1
        have lk : ∀ j, j < 12 → S 165 h = z_i j → ((f_X12_isLiked (z_i h) (z_i g) (S 165 h) (z_s S 166 g (z_i (A g ||| 2 ^ h))) = 0) ↔ ¬ z_de (z_cw S0 h) (z_srg S0) g j) := fun j hj e => by
          rw [e, z_lkN hh hg hj, u2, u3]
        refine ⟨fun t3 => ?_, fun t3 _ _ => ?_⟩
        · refine ⟨rfl, hf1, _, m + 1, z_Jp_s J hg xg nany hh ph.1 best (S1 := z_s S 166 g (z_i (A g ||| 2 ^ h))) z_ss (fun j hj => z_sn (by omega)) (fun j _ => z_sn (by omega)) (Or.inr ⟨z_sn (by omega), ?_⟩), by omega, z_i1 m, fun z => absurd z (by decide)⟩
          rcases J.2.1 h hh with z | ⟨j, hj, xj, z, _⟩
          · rw [z] at t3
            exact absurd t3 (z_lk1 _ _)
          · refine ⟨j, hj, z, z_de_c (fun c => ?_) ((lk j hj z).mp t3)⟩
            rw [← c] at z
            exact nany h hh z
        · refine ⟨rfl, fun a j h1 h2 => ?_, _, m + 1, z_Jp_s J hg xg nany hh ph.1 best (S1 := z_s (z_s S 166 g (z_i (A g ||| 2 ^ h))) 165 h (z_i g)) ?_ (fun j hj => ?_) (fun j hj => ?_) (Or.inl ⟨z_ss, fun j hj z => Classical.byContradiction (fun c => t3 ((lk j hj z).mpr c))⟩), by omega, z_i1 m, fun z => absurd z (by decide)⟩
          · rw [z_sn (by omega)]
            exact hf1 a j h1 h2
          · rw [z_sn (by omega), z_ss]
          · rw [z_sn (by omega), z_sn (by omega)]
          · rw [z_sn (by omega), z_sn (by omega)]
    · refine ⟨rfl, hf, A, m + 1, J, by omega, z_i1 m, fun z i hi xi ci => ?_⟩
      rcases ext i hi xi ci with c | c
      · exact hq z i hi xi c
      · refine Or.inr (fun k hk mk => ?_)
        rcases z_askN (V := S) (M := M) (A := A g) hg (fun k hk => by rw [hf 162 k (by decide) (by decide)]; exact hM k hk) A166.2 with ⟨e, nn⟩ | ⟨h, hh, eh, _⟩
        · refine Classical.byContradiction (fun c2 => nn k hk ⟨mk, ?_⟩)
          rw [c] at c2
          simpa using c2
        · exact absurd (eh.symm.trans (Classical.not_not.mp t2)) (z_nm1 (by omega))
    · refine ⟨rfl, hf, A, m + 1, J, by omega, z_i1 m, fun z i hi xi ci => ?_⟩
      rcases ext i hi xi ci with c | c
      · exact hq z i hi xi c
      · left
        refine Classical.byContradiction (fun c2 => t (z_anyN.mpr (fun j hj e => c2 ⟨j, hj, by rw [c]; exact e⟩)))
theorem z_laysP (L : Nat) (xs : Nat → Int32) (n d : Nat) {R : v_Rf} (h152 : ∀ g, g < 12 → X.testBit g = true → S0 152 (z_cn X g) = z_i g) (hM : ∀ k, k < 5 → (S0 162 k = 0 ↔ M.testBit k = false)) : u_P L xs n d m_X12_laysPlaces 0 (lv_args 0 [.ref 100, .int (z_i (z_cn X 12))]) [] S0 R (z_V R (z_KP X M S0)) := by
  refine w_X12_laysPlaces L xs (z_i (z_cn X 12)) (z_P2 X S0) (z_P22 X S0) (z_P47 X M S0) (z_P55 X M S0) (z_KP X M S0) z_p2 (z_p22 h152) z_p47 (z_p55 h152 hM) n d S0 ?_
  unfold D_X12_laysPlaces
  exact ⟨rfl, fun a j _ _ => rfl, 0, Nat.zero_le 5, rfl, fun j hj => absurd hj (Nat.not_lt_zero j)⟩
end PR
noncomputable def D_X12_placed_44  (H44 : Int32 → Int32 → v_Sf → Prop) (K : Int32 → v_Sf → Prop) (x2 : Int32) (x3 : Int32) (S : v_Sf) : Prop := (((Int32.ofInt 5) ≤ x3 → K (Int32.ofInt (-2)) S) ∧ (¬ ((Int32.ofInt 5) ≤ x3) → (0 ≤ x3.toInt → x3.toInt < 5 → (((¬ (S 165 x3.toInt.toNat) = x2) → H44 x2 (x3 + (Int32.ofInt 1)) S) ∧ (¬ (¬ (S 165 x3.toInt.toNat) = x2) → K x3 S)))))
noncomputable def D_X12_placed (Kp : v_Sf → Prop) (a : Int32) (b : Int32) (H44 : Int32 → Int32 → v_Sf → Prop) (K : Int32 → v_Sf → Prop) (S : v_Sf) : Prop := (((f_X12_areGusts a (Int32.ofInt 1) (Int32.ofInt 6) S) = 0 → K (Int32.ofInt (-1)) S) ∧ (¬ ((f_X12_areGusts a (Int32.ofInt 1) (Int32.ofInt 6) S) = 0) → (((z_in b 0 11) = 0 → K (Int32.ofInt (-1)) S) ∧ (¬ ((z_in b 0 11) = 0) → (((¬ (f_X12_has a b) = 0) → (∀ (S4 : v_Sf), Kp S4 → H44 b (Int32.ofInt 0) S4)) ∧ (¬ (¬ (f_X12_has a b) = 0) → K (Int32.ofInt (-1)) S))))))
set_option maxRecDepth 4000 in
theorem hd_X12_placed (L : Nat) (xs : Nat → Int32) {R : v_Rf} (a : Int32) (b : Int32) (H44 : Int32 → Int32 → v_Sf → Prop) (K : Int32 → v_Sf → Prop) (k44 : ∀ (x2 : Int32) (x3 : Int32) (S : v_Sf), H44 x2 x3 S → D_X12_placed_44 H44 K x2 x3 S) : ∀ n, (∀ (d : Nat) (j1 : Int32) (x2 : Int32) (x3 : Int32) (S : v_Sf), H44 x2 x3 S → u_P L xs n d m_X12_placed 44 [(0, .ref 100), (1, .int j1), (2, .int x2), (3, .int x3)] [] S R (z_Q R K)) := by
  intro n
  induction n using Nat.strongRecOn with
  | ind n ih =>
    intro d j1 x2 x3 S hD
    have hD := k44 x2 x3 S hD
    unfold D_X12_placed_44 at hD
    show u_P L xs n d m_X12_placed 44 [(0, .ref 100), (1, .int j1), (2, .int x2), (3, .int x3)] [] S R _
    refine u_st1 rfl (fun _ => rfl) (fun m hm => ?_)
    refine u_st rfl (fun _ => rfl) ?_
    show u_P L xs m d m_X12_placed 46 [(0, .ref 100), (1, .int j1), (2, .int x2), (3, .int x3)] [.int (Int32.ofInt 5), .int x3] S R _
    refine u_ic_ge rfl (fun h1 => ?_) (fun h1 => ?_)
    · have hD := hD.1 h1
      show u_P L xs m d m_X12_placed 67 [(0, .ref 100), (1, .int j1), (2, .int x2), (3, .int x3)] [] S R _
      refine u_st rfl (fun _ => rfl) ?_
      show u_P L xs m d m_X12_placed 69 [(0, .ref 100), (1, .int j1), (2, .int x2), (3, .int x3)] [.int (Int32.ofInt (-2))] S R _
      exact u_ret rfl rfl ⟨_, rfl, rfl, hD⟩
    · have hD := hD.2 h1
      show u_P L xs m d m_X12_placed 49 [(0, .ref 100), (1, .int j1), (2, .int x2), (3, .int x3)] [] S R _
      refine u_st rfl (fun _ => rfl) ?_
      show u_P L xs m d m_X12_placed 50 [(0, .ref 100), (1, .int j1), (2, .int x2), (3, .int x3)] [.ref 100] S R _
      refine u_getr rfl v_tyM rfl ?_
      refine u_st rfl (fun _ => rfl) ?_
      show u_P L xs m d m_X12_placed 54 [(0, .ref 100), (1, .int j1), (2, .int x2), (3, .int x3)] [.int x3, .ref 166] S R _
      refine u_ialdE (v := S 165 x3.toInt.toNat) rfl rfl rfl (fun b21 b22 => ?_)
      have hD := hD b21 b22
      show u_P L xs m d m_X12_placed 55 [(0, .ref 100), (1, .int j1), (2, .int x2), (3, .int x3)] [.int (S 165 x3.toInt.toNat)] S R _
      refine u_st rfl (fun _ => rfl) ?_
      show u_P L xs m d m_X12_placed 56 [(0, .ref 100), (1, .int j1), (2, .int x2), (3, .int x3)] [.int x2, .int (S 165 x3.toInt.toNat)] S R _
      refine u_ic_ne rfl (fun h3 => ?_) (fun h3 => ?_)
      · have hD := hD.1 h3
        show u_P L xs m d m_X12_placed 61 [(0, .ref 100), (1, .int j1), (2, .int x2), (3, .int x3)] [] S R _
        refine u_st rfl (fun _ => rfl) ?_
        refine u_st rfl (fun _ => rfl) ?_
        refine u_lc (b := [(0, .ref 100), (1, .int j1), (2, .int x2), (3, .int (x3 + (Int32.ofInt 1)))]) (show ([3, 0, 1, 2] : List Nat).Nodup by decide) (show ([0, 1, 2, 3] : List Nat).Nodup by decide) (fun i => match i with | 0 => rfl | 1 => rfl | 2 => rfl | 3 => rfl | _ + 4 => rfl) ?_
        exact (ih m hm) d j1 x2 (x3 + (Int32.ofInt 1)) S hD
      · have hD := hD.2 h3
        show u_P L xs m d m_X12_placed 59 [(0, .ref 100), (1, .int j1), (2, .int x2), (3, .int x3)] [] S R _
        refine u_st rfl (fun _ => rfl) ?_
        show u_P L xs m d m_X12_placed 60 [(0, .ref 100), (1, .int j1), (2, .int x2), (3, .int x3)] [.int x3] S R _
        exact u_ret rfl rfl ⟨_, rfl, rfl, hD⟩
set_option maxRecDepth 4000 in
theorem w_X12_placed (L : Nat) (xs : Nat → Int32) {R : v_Rf} (a : Int32) (b : Int32) (H44 : Int32 → Int32 → v_Sf → Prop) (K : Int32 → v_Sf → Prop) (k44 : ∀ (x2 : Int32) (x3 : Int32) (S : v_Sf), H44 x2 x3 S → D_X12_placed_44 H44 K x2 x3 S) (n d : Nat) (S : v_Sf) (Kp : v_Sf → Prop) (hlp : ¬ (f_X12_areGusts a (Int32.ofInt 1) (Int32.ofInt 6) S) = 0 → ∀ n d, u_P L xs n d m_X12_laysPlaces 0 (lv_args 0 [.ref 100, .int (f_X12_takesSome a S)]) [] (g_X12_takesSome a S) R (z_V R Kp)) (hD : D_X12_placed Kp a b H44 K S) : u_P L xs n d m_X12_placed 0 (lv_args 0 [.ref 100, .int a, .int b]) [] S R (z_Q R K) := by
  unfold D_X12_placed at hD
  show u_P L xs n d m_X12_placed 0 [(0, .ref 100), (1, .int a), (2, .int b)] [] S R _
  refine u_st rfl (fun _ => rfl) ?_
  refine u_st rfl (fun _ => rfl) ?_
  refine u_st rfl (fun _ => rfl) ?_
  refine u_st rfl (fun _ => rfl) ?_
  show u_P L xs n d m_X12_placed 5 [(0, .ref 100), (1, .int a), (2, .int b)] [.int (Int32.ofInt 6), .int (Int32.ofInt 1), .int a, .ref 100] S R _
  refine u_cv (rest := []) rfl (by decide) mt_X12_areGusts v_tyM rfl rfl rfl (Nat.le_of_ble_eq_true rfl) (Nat.le_of_ble_eq_true rfl) (Nat.le_of_ble_eq_true rfl) (fun d' => c_X12_areGusts L xs n d' a (Int32.ofInt 1) (Int32.ofInt 6) S R) ?_
  rintro _ _ _ ⟨_, rfl, rfl, rfl, rfl⟩
  show u_P L xs n d m_X12_placed 8 [(0, .ref 100), (1, .int a), (2, .int b)] [.int (f_X12_areGusts a (Int32.ofInt 1) (Int32.ofInt 6) S)] S R _
  refine u_if_eq rfl (fun h1 => ?_) (fun h1 => ?_)
  · have hD := hD.1 h1
    show u_P L xs n d m_X12_placed 31 [(0, .ref 100), (1, .int a), (2, .int b)] [] S R _
    refine u_st rfl (fun _ => rfl) ?_
    show u_P L xs n d m_X12_placed 32 [(0, .ref 100), (1, .int a), (2, .int b)] [.int (Int32.ofInt (-1))] S R _
    exact u_ret rfl rfl ⟨_, rfl, rfl, hD⟩
  · have hD := hD.2 h1
    show u_P L xs n d m_X12_placed 11 [(0, .ref 100), (1, .int a), (2, .int b)] [] S R _
    refine u_st rfl (fun _ => rfl) ?_
    refine u_st rfl (fun _ => rfl) ?_
    refine u_st rfl (fun _ => rfl) ?_
    refine u_st rfl (fun _ => rfl) ?_
    show u_P L xs n d m_X12_placed 17 [(0, .ref 100), (1, .int a), (2, .int b)] [.long (Int64.ofInt 11), .long (Int64.ofNat 0), .long b.toInt64] S R _
    refine u_cs (ac := [.long b.toInt64, .long (Int64.ofNat 0), .long (Int64.ofInt 11)]) (rest := []) rfl (by decide) mt_X12_lies (fun _ => rfl) (Nat.le_of_ble_eq_true rfl) (Nat.le_of_ble_eq_true rfl) (fun d' => z_liesC L xs n d' b (Int64.ofNat 0) (Int64.ofInt 11) (lo := 0) (hi := 11) rfl rfl S R) ?_
    rintro _ _ _ ⟨_, rfl, rfl, rfl, rfl⟩
    show u_P L xs n d m_X12_placed 20 [(0, .ref 100), (1, .int a), (2, .int b)] [.int (z_in b 0 11)] S R _
    refine u_if_eq rfl (fun h2 => ?_) (fun h2 => ?_)
    · have hD := hD.1 h2
      show u_P L xs n d m_X12_placed 31 [(0, .ref 100), (1, .int a), (2, .int b)] [] S R _
      refine u_st rfl (fun _ => rfl) ?_
      show u_P L xs n d m_X12_placed 32 [(0, .ref 100), (1, .int a), (2, .int b)] [.int (Int32.ofInt (-1))] S R _
      exact u_ret rfl rfl ⟨_, rfl, rfl, hD⟩
    · have hD := hD.2 h2
      show u_P L xs n d m_X12_placed 23 [(0, .ref 100), (1, .int a), (2, .int b)] [] S R _
      refine u_st rfl (fun _ => rfl) ?_
      refine u_st rfl (fun _ => rfl) ?_
      show u_P L xs n d m_X12_placed 25 [(0, .ref 100), (1, .int a), (2, .int b)] [.int b, .int a] S R _
      refine u_cs (ac := [.int a, .int b]) (rest := []) rfl (by decide) mt_X12_has (fun _ => rfl) (Nat.le_of_ble_eq_true rfl) (Nat.le_of_ble_eq_true rfl) (fun d' => c_X12_has L xs n d' a b S R) ?_
      rintro _ _ _ ⟨_, rfl, rfl, rfl, rfl⟩
      show u_P L xs n d m_X12_placed 28 [(0, .ref 100), (1, .int a), (2, .int b)] [.int (f_X12_has a b)] S R _
      refine u_if_ne rfl (fun h3 => ?_) (fun h3 => ?_)
      · have hD := hD.1 h3
        show u_P L xs n d m_X12_placed 33 [(0, .ref 100), (1, .int a), (2, .int b)] [] S R _
        refine u_st rfl (fun _ => rfl) ?_
        refine u_st rfl (fun _ => rfl) ?_
        refine u_st rfl (fun _ => rfl) ?_
        show u_P L xs n d m_X12_placed 36 [(0, .ref 100), (1, .int a), (2, .int b)] [.int a, .ref 100, .ref 100] S R _
        refine u_cv (rest := [.ref 100]) rfl (by decide) mt_X12_takesSome v_tyM rfl rfl rfl (Nat.le_of_ble_eq_true rfl) (Nat.le_of_ble_eq_true rfl) (Nat.le_of_ble_eq_true rfl) (fun d' => c_X12_takesSome L xs n d' a S R) ?_
        rintro _ _ _ ⟨_, rfl, rfl, rfl, rfl⟩
        show u_P L xs n d m_X12_placed 39 [(0, .ref 100), (1, .int a), (2, .int b)] [.int (f_X12_takesSome a S), .ref 100] (g_X12_takesSome a S) R _
        refine u_cv (rest := []) rfl (by decide) mt_X12_laysPlaces v_tyM rfl rfl rfl (Nat.le_of_ble_eq_true rfl) (Nat.le_of_ble_eq_true rfl) (Nat.le_of_ble_eq_true rfl) (fun d' => hlp h1 n d') ?_
        rintro _ S4 _ ⟨rfl, rfl, q5⟩
        have hD := hD S4 q5
        show u_P L xs n d m_X12_placed 42 [(0, .ref 100), (1, .int a), (2, .int b)] [] S4 R _
        refine u_st rfl (fun _ => rfl) ?_
        refine u_st rfl (fun _ => rfl) ?_
        refine u_lc (b := [(0, .ref 100), (1, .int a), (2, .int b), (3, .int (Int32.ofInt 0))]) (show ([3, 0, 1, 2] : List Nat).Nodup by decide) (show ([0, 1, 2, 3] : List Nat).Nodup by decide) (fun i => match i with | 0 => rfl | 1 => rfl | 2 => rfl | 3 => rfl | _ + 4 => rfl) ?_
        exact (hd_X12_placed L xs a b H44 K k44 n) d a b (Int32.ofInt 0) S4 hD
      · have hD := hD.2 h3
        show u_P L xs n d m_X12_placed 31 [(0, .ref 100), (1, .int a), (2, .int b)] [] S R _
        refine u_st rfl (fun _ => rfl) ?_
        show u_P L xs n d m_X12_placed 32 [(0, .ref 100), (1, .int a), (2, .int b)] [.int (Int32.ofInt (-1))] S R _
        exact u_ret rfl rfl ⟨_, rfl, rfl, hD⟩

/-- what the answer is -/
noncomputable def z_Gp (u a w : Int32) (V : v_Sf) : Prop := (f_X12_areGusts a (Int32.ofInt 1) (Int32.ofInt 6) V = 0 → u = Int32.ofInt (-1)) ∧ ∀ X, X < 4096 → a = z_i X → ¬ f_X12_areGusts a (Int32.ofInt 1) (Int32.ofInt 6) V = 0 → (¬ (∃ g, g < 12 ∧ X.testBit g = true ∧ w = z_i g) → u = Int32.ofInt (-1)) ∧ ∀ g, g < 12 → X.testBit g = true → w = z_i g → ∀ M kp, M < 32 → (∀ k, k < 5 → (V 162 k = 0 ↔ M.testBit k = false)) → z_stab X M (z_hi (z_rk V)) (fun k => z_de (z_cw V k) (z_srg V)) kp → (∃ m, m < 5 ∧ kp m = w ∧ u = z_i m) ∨ ((∀ m, m < 5 → ¬ kp m = w) ∧ u = Int32.ofInt (-2))
theorem z_placed_cls {c b : Nat} {S T : v_Sf} (h : z_Rel c b S T) (a w : Int32) : z_Gp (f_X11_placed a w S) a w T := by
  obtain ⟨⟨nc, hB⟩, hP, hT, hK, hO, h17, h25⟩ := id h
  obtain ⟨e, k⟩ := z_chosen hB.1.1 a (lo := Int32.ofInt 1) (hi := Int32.ofInt 6) (by decide)
  unfold z_Gp f_X11_placed
  rw [← e]
  by_cases q : f_X11_chosen a (Int32.ofInt 1) (Int32.ofInt 6) S = 0
  · rw [if_pos q]
    exact ⟨fun _ => rfl, fun X _ _ m => absurd q m⟩
  · rw [if_neg q]
    obtain ⟨X0, hX0, ea, l1, l2, ht⟩ := k q
    refine ⟨fun m => absurd m q, fun X hX e1 _ => ?_⟩
    obtain rfl : X0 = X := z_ieqP (by omega) (by omega) (ea.symm.trans e1)
    rw [ea]
    refine ⟨fun m => ?_, fun g hg xg e2 M kp hM32 hM hs => ?_⟩
    · by_cases r : 0 ≤ w.toInt ∧ w.toInt ≤ 11
      · obtain ⟨g, hg, rfl⟩ : ∃ g, g < 12 ∧ w = z_i g := ⟨w.toInt.toNat, by omega, (z_ofN r.1).symm⟩
        have t2 : X0.testBit g = false := by
          have : ¬ X0.testBit g = true := fun t => m ⟨g, hg, t, rfl⟩
          simpa using this
        rw [if_neg (show ¬ ¬ f_X11_isIn (z_i X0) (z_i g) = 0 from fun z => z ((z_isInN hg).mpr t2))]
      · rw [if_neg (show ¬ ¬ f_X11_isIn (z_i X0) w = 0 from fun z => z (z_isInO hX0 r))]
    · have i1 : ¬ f_X11_isIn (z_i X0) w = 0 := fun z => by
        rw [e2] at z
        rw [(z_isInN hg).mp z] at xg
        cases xg
      rw [if_pos i1, e2]
      obtain ⟨a1, a2, a3, a4, a5, a6, a7, -⟩ := id hB.1
      have hf : z_HF S T := ⟨a1, a2, a7, hO.2.2.2.2.2.1, hO.2.2.2.2.2.2.1, hO.2.2.2.2.2.2.2⟩
      obtain ⟨⟨t1, t2⟩, t3⟩ := hO.2.2.2.2.2.1
      have eM : S 94 0 = z_i M := by
        obtain ⟨M', hM', hMe⟩ : ∃ M', M' < 32 ∧ S 94 0 = z_i M' := ⟨(S 94 0).toInt.toNat, by omega, (z_ofN t1).symm⟩
        rw [hMe]
        refine congrArg z_i (Nat.eq_of_testBit_eq (fun i => ?_))
        by_cases i5 : i < 5
        · have u1 := t3 i i5
          rw [hMe, z_bitN (by omega)] at u1
          have u2 := hM i i5
          cases x : M.testBit i with
          | false =>
            have : ¬ M'.testBit i = true := fun z => u1.mp z (u2.mpr x)
            simpa using this
          | true => exact u1.mpr (fun z => by rw [u2.mp z] at x; cases x)
        · have p : 2 ^ 5 ≤ 2 ^ i := Nat.pow_le_pow_right (by decide) (by omega)
          rw [Nat.testBit_lt_two_pow (show M' < 2 ^ i by omega), Nat.testBit_lt_two_pow (show M < 2 ^ i by omega)]
      unfold f_X2_keeperOf F_X2_keeperOf
      rw [show 5 - 0 = 5 from rfl, eM]
      exact z_kpr hf ht hs hg 5 0 M X0 (z_cnkU M 5) hM32 hX0 (fun j _ m => m) (fun j _ m => m) (fun j _ m n => absurd m n) (fun j _ m n => absurd m n) xg
theorem z_placed_ref {c b : Nat} {S T : v_Sf} (h : z_Rel c b S T) (L : Nat) (xs : Nat → Int32) (n d : Nat) {R : v_Rf} {u : Int32} (a w : Int32) (hu : z_Gp u a w T) : u_P L xs n d m_X12_placed 0 (lv_args 0 [.ref 100, .int a, .int w]) [] T R (z_Q R (fun v _ => u = v)) := by
  obtain ⟨⟨nc, hB⟩, hP, hT, hK, hO, h17, h25⟩ := id h
  obtain ⟨e, k⟩ := z_chosen hB.1.1 a (lo := Int32.ofInt 1) (hi := Int32.ofInt 6) (by decide)
  rw [e] at k
  obtain ⟨hu1, hu2⟩ := hu
  by_cases q : f_X12_areGusts a (Int32.ofInt 1) (Int32.ofInt 6) T = 0
  · refine w_X12_placed L xs a w (fun _ _ _ => False) (fun v _ => u = v) (fun x2 x3 S h => h.elim) n d T (fun _ => False) (fun m => absurd q m) ?_
    unfold D_X12_placed
    exact ⟨fun _ => hu1 q, fun m => absurd q m⟩
  · obtain ⟨X, hX, ea, l1, l2, ht⟩ := k q
    obtain ⟨v1, v2⟩ := hu2 X hX ea q
    obtain ⟨⟨t1, t2⟩, t3⟩ := hO.2.2.2.2.2.1
    obtain ⟨M, hM', hMe⟩ : ∃ M, M < 32 ∧ S 94 0 = z_i M := ⟨(S 94 0).toInt.toNat, by omega, (z_ofN t1).symm⟩
    have hM : ∀ k, k < 5 → (T 162 k = 0 ↔ M.testBit k = false) := fun k hk => by
      have u1 := t3 k hk
      rw [hMe, z_bitN (by omega)] at u1
      refine ⟨fun z => ?_, fun z => Classical.byContradiction (fun z2 => ?_)⟩
      · have : ¬ M.testBit k = true := fun y => u1.mp y z
        simpa using this
      · have := u1.mpr z2
        rw [z] at this
        cases this
    obtain ⟨Y, y1, -, y3, y4⟩ := z_tks (X := X) 12 0 T (by omega)
    have gT : g_X12_takesSome a T = Y := by
      unfold g_X12_takesSome F_X12_takesSome
      rw [show 12 - 0 = 12 from rfl, ea]
      exact congrArg Prod.snd y1
    have fT : f_X12_takesSome a T = z_i (z_cn X 12) := by
      unfold f_X12_takesSome F_X12_takesSome
      rw [show 12 - 0 = 12 from rfl, ea]
      exact congrArg Prod.fst y1
    have hYr : z_rk Y = z_rk T ∧ z_cw Y = z_cw T ∧ z_srg Y = z_srg T := by
      refine ⟨funext fun k => ?_, funext fun k => funext fun g => ?_, funext fun g => ?_⟩
      · unfold z_rk
        rw [y4 163 k (by decide)]
      · unfold z_cw
        rw [y4 122 g (by decide), y4 164 k (by decide)]
      · unfold z_srg
        rw [y4 117 g (by decide)]
    have hlp : ∀ n d, u_P L xs n d m_X12_laysPlaces 0 (lv_args 0 [.ref 100, .int (f_X12_takesSome a T)]) [] (g_X12_takesSome a T) R (z_V R (z_KP X M Y)) := fun n d => by
      rw [gT, fT]
      exact z_laysP L xs n d (fun g hg xg => y3 g (Nat.zero_le g) hg xg) (fun k hk => by rw [y4 162 k (by decide)]; exact hM k hk)
    refine w_X12_placed L xs a w (fun x2 x3 V => x2 = w ∧ (∃ g, g < 12 ∧ X.testBit g = true ∧ w = z_i g) ∧ z_KP X M Y V ∧ ∃ k, k ≤ 5 ∧ x3 = z_i k ∧ ∀ j, j < k → ¬ V 165 j = w) (fun v _ => u = v) (fun x2 x3 V hh => ?_) n d T (z_KP X M Y) (fun _ => hlp) ?_
    · obtain ⟨rfl, ⟨g, hg, xg, eg⟩, ⟨hf, hs⟩, k, hk, rfl, hn⟩ := hh
      rw [hYr.1, hYr.2.1, hYr.2.2] at hs
      unfold D_X12_placed_44
      rw [show Int32.ofInt 5 = z_i 5 from rfl, z_ile (by omega) (by omega)]
      refine ⟨fun m => ?_, fun m _ _ => ?_⟩
      · rcases v2 g hg xg eg M (V 165) hM' hM hs with ⟨i, hi, e1, _⟩ | ⟨_, e2⟩
        · exact absurd e1 (hn i (by omega))
        · exact e2
      · rw [z_iin (show k < 2147483648 by omega)]
        refine ⟨fun m2 => ⟨rfl, ⟨g, hg, xg, eg⟩, ⟨hf, by rw [hYr.1, hYr.2.1, hYr.2.2]; exact hs⟩, k + 1, by omega, z_i1 k, fun j hj => ?_⟩, fun m2 => ?_⟩
        · by_cases c : j = k
          · rw [c]
            exact m2
          · exact hn j (by omega)
        · have m3 := Classical.not_not.mp m2
          rcases v2 g hg xg eg M (V 165) hM' hM hs with ⟨i, hi, e1, e2⟩ | ⟨n1, _⟩
          · rw [e2]
            rw [eg] at e1 m3
            exact congrArg z_i (hs.2.1 i k g hi (by omega) hg e1 m3)
          · exact absurd m3 (n1 k (by omega))
    · unfold D_X12_placed
      refine ⟨fun m => absurd m q, fun _ => ⟨fun m => ?_, fun m => ⟨fun m2 V hV => ?_, fun m2 => ?_⟩⟩⟩
      · refine v1 (fun ⟨g, hg, xg, eg⟩ => z_in0.mp m ?_)
        rw [eg, z_it3 (by omega)]
        omega
      · have r : 0 ≤ w.toInt ∧ w.toInt ≤ 11 := Classical.byContradiction (fun z => m (z_in0.mpr z))
        have ew : z_i w.toInt.toNat = w := z_ofN r.1
        have tb : X.testBit w.toInt.toNat = true := by
          have : ¬ X.testBit w.toInt.toNat = false := fun z => by
            have z2 := (z_hasN0 (X := X) (g := w.toInt.toNat) (by omega)).mpr z
            rw [ew, ← ea] at z2
            exact m2 z2
          simpa using this
        exact ⟨rfl, ⟨w.toInt.toNat, by omega, tb, ew.symm⟩, hV, 0, Nat.zero_le 5, rfl, fun j hj => absurd hj (Nat.not_lt_zero j)⟩
      · refine v1 (fun ⟨g, hg, xg, eg⟩ => ?_)
        have z2 := Classical.not_not.mp m2
        rw [ea, eg, z_hasN0 hg] at z2
        rw [z2] at xg
        cases xg
section CA_placed
variable {L : Nat} {xs : Nat → Int32} {S : v_Sf} {R : v_Rf} {Q : Option Value → v_Sf → v_Rf → Prop}
theorem a_X11_placed (v1 v2 : Int32) (hT : v_Tb v_ty S R) (hO : v_Op S) (hK : z_K S R) (hq : ∀ S' R' u, z_Gp u v1 v2 S' → v_Tb v_ty S' R' → v_Op S' → z_K S' R' → Q (some (.int u)) S' R') : w_T L xs 59 m_X11_placed 0 (lv_args 0 [.ref 1, .int v1, .int v2]) [] S R Q := by
  obtain ⟨c, b, e, hr, hR⟩ := id hK
  obtain ⟨hc, hb, he, hn, hL, hB, hE, hW⟩ := id hr
  refine z_use (v_met 60 139 rw_166 (List.mem_of_getElem? (i := 0) rfl) (Nat.le_of_ble_eq_true rfl)) (Nat.le_of_ble_eq_true rfl) mt_X11_placed ⟨rfl, ⟨_, rfl, (q_rng _).1, (q_rng _).2⟩, ⟨_, rfl, (q_rng _).1, (q_rng _).2⟩, trivial⟩ hT hO (fun n d => c_X11_placed L xs n d v1 v2 S R) (fun r S1 R1 S2 R2 hT1 hO1 hr1 hF ee q => ?_)
  have hS1 := z_K_T hc hb hR hF rfl
  obtain ⟨v, hv, hRR, hf, hg⟩ := q
  have k1 := z_placed_cls hS1 v1 v2
  rw [hf] at k1
  rw [← hv]
  exact hq S1 R1 v k1 hT1 hO1 (z_K_fr hK hF rfl)
theorem a_X12_placed (v1 v2 u : Int32) (hu : z_Gp u v1 v2 S) (hT : v_Tb v_ty S R) (hO : v_Op S) (hK : z_K S R) (hq : ∀ S' R', v_Tb v_ty S' R' → v_Op S' → z_K S' R' → Q (some (.int u)) S' R') : w_T L xs 59 m_X12_placed 0 (lv_args 0 [.ref 100, .int v1, .int v2]) [] S R Q := by
  obtain ⟨c, b, e, hr, hR⟩ := id hK
  refine z_use (v_met 60 278 rw_246 (List.mem_of_getElem? (i := 0) rfl) (Nat.le_of_ble_eq_true rfl)) (Nat.le_of_ble_eq_true rfl) mt_X12_placed ⟨rfl, ⟨_, rfl, (q_rng _).1, (q_rng _).2⟩, ⟨_, rfl, (q_rng _).1, (q_rng _).2⟩, trivial⟩ hT hO (fun n d => z_placed_ref hR L xs n d v1 v2 hu) (fun r S1 R1 S2 R2 hT1 hO1 hr1 hF ee q => ?_)
  obtain ⟨v, hv, hRR, hf⟩ := q
  rw [← hv, ← hf]
  exact hq S1 R1 hT1 hO1 (z_K_fr hK hF rfl)
end CA_placed
