/-! placed: orders, going through, the stable row -/
noncomputable def z_hi (ri : Nat → Int) (a b : Nat) : Prop := ri b < ri a ∨ ri a = ri b ∧ a < b
noncomputable def z_de (cw st : Nat → Int) (g j : Nat) : Prop := cw j < cw g ∨ cw g = cw j ∧ (st j < st g ∨ st g = st j ∧ g < j)
section OD
variable {ri cw st : Nat → Int} {a b c : Nat}
theorem z_hi_t : z_hi ri a b → z_hi ri b c → z_hi ri a c := by
  unfold z_hi
  omega
theorem z_hi_a : z_hi ri a b → ¬ z_hi ri b a := by
  unfold z_hi
  omega
theorem z_hi_c (h : a ≠ b) : ¬ z_hi ri a b → z_hi ri b a := by
  unfold z_hi
  omega
theorem z_de_t : z_de cw st a b → z_de cw st b c → z_de cw st a c := by
  unfold z_de
  omega
theorem z_de_a : z_de cw st a b → ¬ z_de cw st b a := by
  unfold z_de
  omega
theorem z_de_c (h : a ≠ b) : ¬ z_de cw st a b → z_de cw st b a := by
  unfold z_de
  omega
end OD
theorem z_ieqP {a b : Nat} (ha : a < 2147483648) (hb : b < 2147483648) (h : z_i a = z_i b) : a = b := by
  have := congrArg (fun z => z.toInt.toNat) h
  simp only [z_iin ha, z_iin hb] at this
  exact this
/-- what has been found so far -/
noncomputable def z_sI (P : Nat → Prop) (gt : Nat → Nat → Prop) (k : Nat) (x : Int32) : Prop := (x = Int32.ofInt (-1) ∧ ∀ j, j < k → ¬ P j) ∨ ∃ h, h < k ∧ x = z_i h ∧ P h ∧ ∀ j, j < k → P j → j ≠ h → gt h j
theorem z_scan {n : Nat} {P : Nat → Prop} {gt : Nat → Nat → Prop} (hn : n ≤ 12) (tr : ∀ a b c, gt a b → gt b c → gt a c) {F : Nat → Nat → Int32 → Int32} (h0 : ∀ k x, F 0 k x = x) (hs : ∀ r k x, k + (r + 1) = n → z_sI P gt k x → (P k ∧ (∀ h, h < k → x = z_i h → gt k h) ∧ F (r + 1) k x = F r (k + 1) (z_i k)) ∨ ((¬ P k ∨ ∃ h, h < k ∧ x = z_i h ∧ gt h k) ∧ F (r + 1) k x = F r (k + 1) x)) : ∀ r k x, k + r = n → z_sI P gt k x → z_sI P gt n (F r k x) := by
  intro r
  induction r with
  | zero =>
    intro k x hk hI
    obtain rfl : k = n := by omega
    rw [h0]
    exact hI
  | succ r ih =>
    intro k x hk hI
    rcases hs r k x hk hI with ⟨hP, hx, e⟩ | ⟨hx, e⟩
    · rw [e]
      refine ih (k + 1) _ (by omega) (Or.inr ⟨k, by omega, rfl, hP, fun j hj pj ne => ?_⟩)
      rcases hI with ⟨e1, hn⟩ | ⟨h, hh, e1, ph, hg⟩
      · exact absurd pj (hn j (by omega))
      · by_cases q : j = h
        · rw [q]
          exact hx h hh e1
        · exact tr k h j (hx h hh e1) (hg j (by omega) pj q)
    · rw [e]
      refine ih (k + 1) _ (by omega) ?_
      rcases hI with ⟨e1, hn⟩ | ⟨h, hh, e1, ph, hg⟩
      · rcases hx with np | ⟨h', hh', e2, _⟩
        · refine Or.inl ⟨e1, fun j hj => ?_⟩
          by_cases q : j = k
          · rw [q]
            exact np
          · exact hn j (by omega)
        · exact absurd (e2.symm.trans e1) (z_nm1 (by omega))
      · refine Or.inr ⟨h, by omega, e1, ph, fun j hj pj ne => ?_⟩
        by_cases q : j = k
        · rcases hx with np | ⟨h', hh', e2, g'⟩
          · rw [q] at pj
            exact absurd pj np
          · have e3 := z_ieqP (by omega) (by omega) (e1.symm.trans e2)
            rw [q, e3]
            exact g'
        · exact hg j (by omega) pj ne
/-- a row of houses with which nobody asks any more -/
noncomputable def z_stab (X M : Nat) (hi : Nat → Nat → Prop) (de : Nat → Nat → Nat → Prop) (kp : Nat → Int32) : Prop := (∀ k, k < 5 → kp k = Int32.ofInt (-1) ∨ ∃ g, g < 12 ∧ X.testBit g = true ∧ M.testBit k = true ∧ kp k = z_i g) ∧ (∀ k k' g, k < 5 → k' < 5 → g < 12 → kp k = z_i g → kp k' = z_i g → k = k') ∧ ∀ g k, g < 12 → X.testBit g = true → k < 5 → M.testBit k = true → (∀ k', k' < 5 → kp k' = z_i g → hi k k') → ∃ j, j < 12 ∧ kp k = z_i j ∧ de k j g
noncomputable def z_rk (V : v_Sf) (k : Nat) : Int := (V 163 k).toInt
noncomputable def z_cw (V : v_Sf) (k g : Nat) : Int := (f_X12_sizeOf (V 122 g &&& V 164 k)).toInt
noncomputable def z_srg (V : v_Sf) (g : Nat) : Int := (V 117 g).toInt
theorem z_hgN {V : v_Sf} {a b : Nat} (ha : a < 5) (hb : b < 5) : (f_X12_isHigher (z_i a) (z_i b) V = 0) ↔ ¬ z_hi (z_rk V) a b := by
  have ea : (z_i a).toInt.toNat = a := z_iin (by omega)
  have eb : (z_i b).toInt.toNat = b := z_iin (by omega)
  unfold f_X12_isHigher z_hi z_rk
  rw [if_neg (z_nm1 (show b < 2147483648 by omega)), ea, eb]
  by_cases q : V 163 b < V 163 a
  · rw [if_pos q]
    rw [z_ltI2] at q
    exact ⟨fun m => absurd m (by decide), fun m => absurd (Or.inl q) m⟩
  · rw [if_neg q]
    rw [z_ltI2] at q
    by_cases r : V 163 a = V 163 b
    · rw [if_neg (show ¬ ¬ V 163 a = V 163 b from fun m => m r)]
      by_cases s : z_i b ≤ z_i a
      · rw [if_pos s]
        rw [z_ile (by omega) (by omega)] at s
        exact ⟨fun _ m => by rcases m with m | m <;> omega, fun _ => rfl⟩
      · rw [if_neg s]
        rw [z_ile (by omega) (by omega)] at s
        exact ⟨fun m => absurd m (by decide), fun m => absurd (Or.inr ⟨by rw [r], by omega⟩) m⟩
    · rw [if_pos r]
      have r2 : ¬ (V 163 a).toInt = (V 163 b).toInt := fun m => r (z_inj2 m)
      exact ⟨fun _ m => by rcases m with m | m <;> omega, fun _ => rfl⟩
theorem z_lkN {V : v_Sf} {k g j : Nat} (hk : k < 5) (hg : g < 12) (hj : j < 12) : (f_X12_isLiked (z_i k) (z_i g) (z_i j) V = 0) ↔ ¬ z_de (z_cw V k) (z_srg V) g j := by
  have ek : (z_i k).toInt.toNat = k := z_iin (by omega)
  have eg : (z_i g).toInt.toNat = g := z_iin (by omega)
  have ej : (z_i j).toInt.toNat = j := z_iin (by omega)
  unfold f_X12_isLiked z_de z_cw z_srg
  rw [if_pos (z_nm1 (show j < 2147483648 by omega)), ek, eg, ej]
  generalize f_X12_sizeOf (V 122 g &&& V 164 k) = A
  generalize f_X12_sizeOf (V 122 j &&& V 164 k) = B
  by_cases q : A = B
  · rw [if_pos q]
    have q1 : A.toInt = B.toInt := by rw [q]
    by_cases r : V 117 g = V 117 j
    · rw [if_pos r]
      have r1 : (V 117 g).toInt = (V 117 j).toInt := by rw [r]
      by_cases s : z_i j ≤ z_i g
      · rw [if_pos s]
        rw [z_ile (by omega) (by omega)] at s
        exact ⟨fun _ m => by omega, fun _ => rfl⟩
      · rw [if_neg s]
        rw [z_ile (by omega) (by omega)] at s
        exact ⟨fun m => absurd m (by decide), fun m => absurd (Or.inr ⟨q1, Or.inr ⟨r1, by omega⟩⟩) m⟩
    · rw [if_neg r]
      have r2 : ¬ (V 117 g).toInt = (V 117 j).toInt := fun m => r (z_inj2 m)
      by_cases s : V 117 g ≤ V 117 j
      · rw [if_pos s]
        rw [z_leI2] at s
        exact ⟨fun _ m => by omega, fun _ => rfl⟩
      · rw [if_neg s]
        rw [z_leI2] at s
        exact ⟨fun m => absurd m (by decide), fun m => absurd (Or.inr ⟨q1, Or.inl (by omega)⟩) m⟩
  · rw [if_neg q]
    have q2 : ¬ A.toInt = B.toInt := fun m => q (z_inj2 m)
    by_cases s : A ≤ B
    · rw [if_pos s]
      rw [z_leI2] at s
      exact ⟨fun _ m => by omega, fun _ => rfl⟩
    · rw [if_neg s]
      rw [z_leI2] at s
      exact ⟨fun m => absurd m (by decide), fun m => absurd (Or.inl (by omega)) m⟩
theorem z_hg1 {V : v_Sf} (a : Int32) : ¬ f_X12_isHigher a (Int32.ofInt (-1)) V = 0 := by
  unfold f_X12_isHigher
  rw [if_pos rfl]
  decide
theorem z_lk1 {V : v_Sf} (a b : Int32) : ¬ f_X12_isLiked a b (Int32.ofInt (-1)) V = 0 := by
  unfold f_X12_isLiked
  rw [if_neg (show ¬ ¬ Int32.ofInt (-1) = Int32.ofInt (-1) from fun m => m rfl)]
  decide
/-- the class's words -/
theorem z_higN {U V : v_Sf} (h : z_HF U V) {O : Nat} : z_sI (fun k => O.testBit k = true) (z_hi (z_rk V)) 5 (f_X2_highest (z_i O) U) := by
  unfold f_X2_highest F_X2_highest
  rw [show 5 - 0 = 5 from rfl]
  refine z_scan (n := 5) (P := fun k => O.testBit k = true) (gt := z_hi (z_rk V)) (by decide) (fun a b c => z_hi_t) (F := r_X2_highest_4 (z_i O) U) (fun k x => by rw [r_X2_highest_4]) (fun r k x hk hI => ?_) 5 0 _ (by omega) (Or.inl ⟨rfl, fun j hj => absurd hj (Nat.not_lt_zero j)⟩)
  have hh := z_isInN (X := O) (g := k) (by omega)
  rw [r_X2_highest_4]
  by_cases t : f_X11_isIn (z_i O) (z_i k) = 0
  · rw [if_pos t]
    exact Or.inr ⟨Or.inl (fun m => by have m2 : O.testBit k = true := m; rw [hh.mp t] at m2; exact Bool.noConfusion m2), rfl⟩
  · have t2 : O.testBit k = true := by
      have : ¬ O.testBit k = false := fun z => t (hh.mpr z)
      simpa using this
    have hx : x = Int32.ofInt (-1) ∨ ∃ m, m < 5 ∧ x = z_i m := by
      rcases hI with ⟨e, _⟩ | ⟨m, hm, e, _⟩
      · exact Or.inl e
      · exact Or.inr ⟨m, by omega, e⟩
    rw [if_neg t, z_higherE h (by omega) hx]
    by_cases s : f_X12_isHigher (z_i k) x V = 0
    · rw [if_pos s]
      refine Or.inr ⟨?_, rfl⟩
      rcases hI with ⟨e, _⟩ | ⟨m, hm, e, _⟩
      · rw [e] at s
        exact absurd s (z_hg1 _)
      · rw [e, z_hgN (by omega) (by omega)] at s
        exact Or.inr ⟨m, hm, e, z_hi_c (by omega) s⟩
    · rw [if_neg s]
      refine Or.inl ⟨t2, fun m hm e => ?_, rfl⟩
      rw [e, z_hgN (by omega) (by omega)] at s
      exact Classical.not_not.mp s
theorem z_deaN {U V : v_Sf} (h : z_HF U V) {Lf k : Nat} (hk : k < 5) (hL : ∀ g, g < 12 → Lf.testBit g = true → ¬ V 116 g = 0) : z_sI (fun g => Lf.testBit g = true) (z_de (z_cw V k) (z_srg V)) 12 (f_X2_dearest (z_i k) (z_i Lf) U) := by
  unfold f_X2_dearest F_X2_dearest
  rw [show 12 - 0 = 12 from rfl]
  refine z_scan (n := 12) (P := fun g => Lf.testBit g = true) (gt := z_de (z_cw V k) (z_srg V)) (by decide) (fun a b c => z_de_t) (F := r_X2_dearest_6 (z_i k) (z_i Lf) U) (fun k x => by rw [r_X2_dearest_6]) (fun r g x hg hI => ?_) 12 0 _ (by omega) (Or.inl ⟨rfl, fun j hj => absurd hj (Nat.not_lt_zero j)⟩)
  have hh := z_isInN (X := Lf) (g := g) (by omega)
  rw [r_X2_dearest_6]
  by_cases t : f_X11_isIn (z_i Lf) (z_i g) = 0
  · rw [if_pos t]
    exact Or.inr ⟨Or.inl (fun m => by have m2 : Lf.testBit g = true := m; rw [hh.mp t] at m2; exact Bool.noConfusion m2), rfl⟩
  · have t2 : Lf.testBit g = true := by
      have : ¬ Lf.testBit g = false := fun z => t (hh.mpr z)
      simpa using this
    have hx : x = Int32.ofInt (-1) ∨ ∃ m, m < 12 ∧ ¬ V 116 m = 0 ∧ x = z_i m := by
      rcases hI with ⟨e, _⟩ | ⟨m, hm, e, pm, _⟩
      · exact Or.inl e
      · exact Or.inr ⟨m, by omega, hL m (by omega) pm, e⟩
    rw [if_neg t, z_dearE h hk (by omega) (hL g (by omega) t2) hx]
    by_cases s : f_X12_isLiked (z_i k) (z_i g) x V = 0
    · rw [if_pos s]
      refine Or.inr ⟨?_, rfl⟩
      rcases hI with ⟨e, _⟩ | ⟨m, hm, e, _⟩
      · rw [e] at s
        exact absurd s (z_lk1 _ _)
      · rw [e, z_lkN hk (by omega) (by omega)] at s
        exact Or.inr ⟨m, hm, e, z_de_c (by omega) s⟩
    · rw [if_neg s]
      refine Or.inl ⟨t2, fun m hm e => ?_, rfl⟩
      rw [e, z_lkN hk (by omega) (by omega)] at s
      exact Classical.not_not.mp s
theorem z_cn0 {X : Nat} : ∀ m, z_cn X m = 0 → ∀ k, k < m → ¬ X.testBit k = true := fun m h k hk t => by
  have := z_cn_lt hk t
  omega
/-- house after house, the highest first: the stable row -/
theorem z_kpr {U V : v_Sf} (h : z_HF U V) {X M : Nat} (hX : ∀ g, g < 12 → X.testBit g = true → ¬ V 116 g = 0) {kp : Nat → Int32} (hs : z_stab X M (z_hi (z_rk V)) (fun k => z_de (z_cw V k) (z_srg V)) kp) {w : Nat} (hw : w < 12) : ∀ (r k O Lf : Nat), z_cn O 5 ≤ r → O < 32 → Lf < 4096 → (∀ j, j < 5 → O.testBit j = true → M.testBit j = true) → (∀ g, g < 12 → Lf.testBit g = true → X.testBit g = true) → (∀ j, j < 5 → M.testBit j = true → ¬ O.testBit j = true → ∃ g, g < 12 ∧ ¬ Lf.testBit g = true ∧ kp j = z_i g) → (∀ g, g < 12 → X.testBit g = true → ¬ Lf.testBit g = true → ∃ j, j < 5 ∧ ¬ O.testBit j = true ∧ kp j = z_i g) → Lf.testBit w = true → (∃ m, m < 5 ∧ kp m = z_i w ∧ r_X2_keeperOf_12 (z_i w) U r k (z_i O) (z_i Lf) = z_i m) ∨ ((∀ m, m < 5 → ¬ kp m = z_i w) ∧ r_X2_keeperOf_12 (z_i w) U r k (z_i O) (z_i Lf) = Int32.ofInt (-2)) := by
  obtain ⟨s1, s2, s3⟩ := id hs
  have fin : ∀ O Lf : Nat, (∀ j, j < 5 → ¬ O.testBit j = true) → (∀ j, j < 5 → M.testBit j = true → ¬ O.testBit j = true → ∃ g, g < 12 ∧ ¬ Lf.testBit g = true ∧ kp j = z_i g) → Lf.testBit w = true → ∀ m, m < 5 → ¬ kp m = z_i w := fun O Lf h1 h2 h3 m hm e => by
    rcases s1 m hm with q | ⟨g, hg, xg, mg, q⟩
    · exact absurd (e.symm.trans q) (z_nm1 (by omega))
    · obtain ⟨g', hg', lg', q'⟩ := h2 m hm mg (h1 m hm)
      have e2 := z_ieqP (by omega) (by omega) (e.symm.trans q')
      rw [← e2] at lg'
      exact lg' h3
  intro r
  induction r with
  | zero =>
    intro k O Lf c1 _ _ h1 h2 h3 h5 h4
    rw [r_X2_keeperOf_12]
    exact Or.inr ⟨fin O Lf (z_cn0 5 (by omega)) h3 h4, rfl⟩
  | succ r ih =>
    intro k O Lf c1 lO lL h1 h2 h3 h5 h4
    rw [r_X2_keeperOf_12]
    by_cases q : z_i O = 0
    · rw [if_pos q]
      have O0 : O = 0 := z_ieqP (by omega) (by omega) (show z_i O = z_i 0 from q)
      refine Or.inr ⟨fin O Lf (fun j _ => ?_) h3 h4, rfl⟩
      rw [O0, Nat.zero_testBit]
      exact fun m => Bool.noConfusion m
    · have q2 : ¬ z_i Lf = 0 := fun m => by
        have L0 : Lf = 0 := z_ieqP (by omega) (by omega) (show z_i Lf = z_i 0 from m)
        rw [L0, Nat.zero_testBit] at h4
        exact Bool.noConfusion h4
      rw [if_neg q, if_neg q2]
      rcases z_higN h (O := O) with ⟨-, n1⟩ | ⟨a, ha, ea, pa, ga⟩
      · exact absurd (by
          refine Classical.byContradiction (fun m => ?_)
          obtain ⟨i, hi⟩ := Nat.exists_testBit_of_ne_zero m
          have i5 : i < 5 := Classical.byContradiction (fun z => by
            rw [Nat.testBit_lt_two_pow (by have : 2 ^ 5 ≤ 2 ^ i := Nat.pow_le_pow_right (by decide) (by omega); omega)] at hi
            cases hi)
          exact n1 i i5 hi) (show ¬ O = 0 from fun m => q (by rw [m]; rfl))
      · have pa : O.testBit a = true := pa
        rw [ea, if_neg (show ¬ z_i a < 0 by rw [show (0 : Int32) = z_i 0 from rfl, z_ilt (by omega) (by omega)]; omega)]
        rcases z_deaN h (Lf := Lf) ha (fun g hg t => hX g hg (h2 g hg t)) with ⟨-, n1⟩ | ⟨g, hg, eg, pg, gg⟩
        · exact absurd h4 (n1 w hw)
        · have pg : Lf.testBit g = true := pg
          rw [eg, if_pos (show (0 : Int32) ≤ z_i g by rw [show (0 : Int32) = z_i 0 from rfl, z_ile (by omega) (by omega)]; omega)]
          have mine : kp a = z_i g := by
            refine Classical.byContradiction (fun ne => ?_)
            obtain ⟨j, hj, e1, e2⟩ := s3 g a hg (h2 g hg pg) ha (h1 a ha pa) (fun k' hk' e => by
              by_cases t : O.testBit k' = true
              · exact ga k' hk' t (fun z => ne (by rw [z] at e; exact e))
              · have mk' : M.testBit k' = true := by
                  rcases s1 k' hk' with z | ⟨g', _, _, m', _⟩
                  · exact absurd (e.symm.trans z) (z_nm1 (by omega))
                  · exact m'
                obtain ⟨g', hg', lg', e'⟩ := h3 k' hk' mk' t
                have e3 := z_ieqP (by omega) (by omega) (e.symm.trans e')
                rw [← e3] at lg'
                exact absurd pg lg')
            have e2 : z_de (z_cw V a) (z_srg V) j g := e2
            have lj : Lf.testBit j = true := Classical.byContradiction (fun z => by
              obtain ⟨x, hx, xx, mx, e⟩ : ∃ x, x < 12 ∧ X.testBit x = true ∧ M.testBit a = true ∧ kp a = z_i x := by
                rcases s1 a ha with z | z
                · exact absurd (e1.symm.trans z) (z_nm1 (by omega))
                · exact z
              have ex := z_ieqP (by omega) (by omega) (e1.symm.trans e)
              rw [← ex] at xx
              obtain ⟨k', hk', o', e'⟩ := h5 j hj xx z
              rw [s2 a k' j ha hk' hj e1 e'] at pa
              exact o' pa)
            by_cases c : j = g
            · rw [c] at e1
              exact ne e1
            · exact z_de_a e2 (gg j hj lj c)
          by_cases c : z_i g = z_i w
          · rw [if_neg (show ¬ ¬ z_i g = z_i w from fun m => m c)]
            exact Or.inl ⟨a, ha, by rw [mine, c], rfl⟩
          · rw [if_pos c]
            have sa : Int32.ofInt 1 <<< (z_i a &&& 31) = z_i (2 ^ a) := z_sh_all ⟨a, by omega⟩
            have sg : Int32.ofInt 1 <<< (z_i g &&& 31) = z_i (2 ^ g) := z_sh_all ⟨g, hg⟩
            rw [sa, sg, z_anot, z_anot]
            have cO := z_cn_nt pa 5 ha
            have bO : ∀ j, (z_nt O (2 ^ a)).testBit j = true ↔ O.testBit j = true ∧ j ≠ a := fun j => by
              rw [z_nt_t, Nat.testBit_two_pow, decide_eq_true_iff]
              exact ⟨fun m => ⟨m.1, fun z => m.2 z.symm⟩, fun m => ⟨m.1, fun z => m.2 z.symm⟩⟩
            have bL : ∀ j, (z_nt Lf (2 ^ g)).testBit j = true ↔ Lf.testBit j = true ∧ j ≠ g := fun j => by
              rw [z_nt_t, Nat.testBit_two_pow, decide_eq_true_iff]
              exact ⟨fun m => ⟨m.1, fun z => m.2 z.symm⟩, fun m => ⟨m.1, fun z => m.2 z.symm⟩⟩
            have lO2 : z_nt O (2 ^ a) < 32 := Nat.lt_pow_two_of_testBit (n := 5) _ (fun i hi => by
              have : ¬ (z_nt O (2 ^ a)).testBit i = true := fun m => by
                have m1 := ((bO i).mp m).1
                rw [Nat.testBit_lt_two_pow (by have : 2 ^ 5 ≤ 2 ^ i := Nat.pow_le_pow_right (by decide) hi; omega)] at m1
                cases m1
              simpa using this)
            have lL2 : z_nt Lf (2 ^ g) < 4096 := Nat.lt_pow_two_of_testBit (n := 12) _ (fun i hi => by
              have : ¬ (z_nt Lf (2 ^ g)).testBit i = true := fun m => by
                have m1 := ((bL i).mp m).1
                rw [Nat.testBit_lt_two_pow (by have : 2 ^ 12 ≤ 2 ^ i := Nat.pow_le_pow_right (by decide) hi; omega)] at m1
                cases m1
              simpa using this)
            refine ih (k + 1) (z_nt O (2 ^ a)) (z_nt Lf (2 ^ g)) (by omega) lO2 lL2 (fun j hj t => h1 j hj ((bO j).mp t).1) (fun j hj t => h2 j hj ((bL j).mp t).1) (fun j hj mj nj => ?_) (fun i hi xi ni => ?_) ((bL w).mpr ⟨h4, fun z => c (by rw [z])⟩)
            · by_cases e : j = a
              · rw [e]
                exact ⟨g, hg, fun t => ((bL g).mp t).2 rfl, mine⟩
              · obtain ⟨g', hg', lg', e'⟩ := h3 j hj mj (fun t => nj ((bO j).mpr ⟨t, e⟩))
                exact ⟨g', hg', fun t => lg' ((bL g').mp t).1, e'⟩
            · by_cases e : i = g
              · rw [e]
                exact ⟨a, ha, fun t => ((bO a).mp t).2 rfl, mine⟩
              · obtain ⟨k', hk', o', e'⟩ := h5 i hi xi (fun t => ni ((bL i).mpr ⟨t, e⟩))
                exact ⟨k', hk', fun t => o' ((bO k').mp t).1, e'⟩
