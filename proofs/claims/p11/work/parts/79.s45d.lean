/-! letting go: the reference's rows -/
noncomputable def z_BsM (n : Nat) (p : Nat → Int) (G : Nat → Int32) (cg : Nat → Nat → Prop) (lm : Nat → Int) (T : v_Sf) : Prop := n ≤ 6 ∧ (∀ i, 0 ≤ p i ∧ p i ≤ 99) ∧ (∀ k, 0 ≤ lm k ∧ lm k ≤ 255) ∧ (∀ i, i < n → T 117 ((T 152 i).toInt.toNat) = Int32.ofInt (p i) ∧ T 121 ((T 152 i).toInt.toNat) = G i ∧ ∀ k, k < 4 → (cg i k ↔ ¬ f_X12_canGo (T 152 i) (z_i k) T = 0) ∧ (cg i k → ¬ T 156 k = 0)) ∧ ∀ k, k < 4 → ¬ T 156 k = 0 → T 158 k = Int32.ofInt (lm k)
theorem z_idiv {a b : Nat} (ha : a < 2147483648) (hb : 1 ≤ b ∧ b < 2147483648) : z_i a / z_i b = z_i (a / b) := by
  obtain ⟨e1, n1, n2⟩ := v_div_e (x := z_i a) (y := z_i b) (by rw [z_it3 ha]; omega) (by rw [z_it3 hb.2]; omega)
  have := Nat.div_le_self a b
  refine z_inj2 ?_
  rw [e1, z_it3 ha, z_it3 hb.2, z_it3 (by omega), Int.tdiv_eq_ediv_of_nonneg (by omega)]
  exact (Int.natCast_ediv a b).symm
theorem z_opn : ∀ (r m : Nat) (S : v_Sf), r ≤ 6 → m < 1000000 → ∃ W, r_X12_opensRow_8 (Int32.ofInt 5) r (z_i m) (Int32.ofInt ((r : Int) - 1)) S = W ∧ (∀ j, j < r → W 154 j = z_i (m / 5 ^ (r - 1 - j) % 5)) ∧ (∀ a j, ¬ (a = 154 ∧ j < r) → W a j = S a j) := by
  intro r
  induction r with
  | zero =>
    intro m S _ _
    exact ⟨S, rfl, fun j hj => by omega, fun a j _ => rfl⟩
  | succ r ih =>
    intro m S hr hm
    have e1 : Int32.ofInt (((r + 1 : Nat) : Int) - 1) = z_i r := by
      unfold z_i
      congr 1
      omega
    have e2 : z_i r + Int32.ofInt (-1) = Int32.ofInt ((r : Int) - 1) := by
      unfold z_i
      rw [z_oia]
      rfl
    have er : (z_i r).toInt.toNat = r := z_iin (by omega)
    have e3 : z_i m / Int32.ofInt 5 = z_i (m / 5) := z_idiv (b := 5) (by omega) (by omega)
    have e4 : z_i m - z_i (m / 5) * Int32.ofInt 5 = z_i (m % 5) := by
      rw [show z_i (m / 5) * Int32.ofInt 5 = z_i (m / 5 * 5) from z_imul (m / 5) 5]
      unfold z_i
      rw [z_ois]
      congr 1
      omega
    rw [r_X12_opensRow_8, e1, e2, e3, e4, er]
    obtain ⟨W, w1, w2, w3⟩ := ih (m / 5) (z_s S 154 r (z_i (m % 5))) (by omega) (by omega)
    refine ⟨W, w1, fun j hj => ?_, fun a j q => ?_⟩
    · by_cases q : j = r
      · subst q
        rw [w3 _ _ (by omega), z_ss, show j + 1 - 1 - j = 0 by omega, Nat.pow_zero, Nat.div_one]
      · rw [w2 j (by omega), show r + 1 - 1 - j = (r - 1 - j) + 1 by omega, Nat.pow_succ, Nat.mul_comm _ 5, ← Nat.div_div_eq_div_mul]
    · rw [w3 a j (by omega), z_sn (by omega)]
noncomputable def z_v12 (G : Nat → Int32) (cg : Nat → Nat → Prop) (x : Nat → Nat) (i : Nat) : Prop := (∀ j, j < i → x j = 4 ∨ x j < 4 ∧ cg j (x j)) ∧ (∀ j l, j < i → l < j → G l = G j → x l = x j)
noncomputable def z_fV (V U : v_Sf) : Prop := ∀ a j, ¬ (a = 99 ∧ (j = 100 ∨ j = 101)) → U a j = V a j
/-- a row that is open: all else as in T -/
noncomputable def z_opV (n : Nat) (x : Nat → Nat) (T V : v_Sf) : Prop := (∀ a j, ¬ (a = 154 ∨ a = 155 ∨ a = 99 ∧ 100 ≤ j ∧ j ≤ 103) → V a j = T a j) ∧ ∀ j, j < n → x j ≤ 4 ∧ V 154 j = z_i (x j)
section CL
variable {n : Nat} {p : Nat → Int} {G : Nat → Int32} {cg : Nat → Nat → Prop} {lm : Nat → Int} {T V : v_Sf} {x : Nat → Nat}
theorem z_ieq {a b : Nat} (ha : a ≤ 4) (hb : b ≤ 4) : (z_i a = z_i b) ↔ a = b := by
  constructor
  · intro h
    have := congrArg (fun z => z.toInt.toNat) h
    simp only [z_iin (show a < 2147483648 by omega), z_iin (show b < 2147483648 by omega)] at this
    exact this
  · intro h
    rw [h]
theorem z_cl40 (hb : z_BsM n p G cg lm T) (hV : z_opV n x T V) (x1 : Int32) (κ : v_Sf → Int32 × v_Sf) {k : Nat} (hk : k < n) : ∀ (r i : Nat) (U : v_Sf), i + r = k → z_fV V U → ((∀ l, i ≤ l → l < k → G l = G k → x l = x k) ∧ r_X12_canLeave_40 x1 κ k r i U = κ (z_s (z_s U 99 100 ((U 99 100) + Int32.ofInt (if x k = 4 then 0 else 1))) 99 101 ((U 99 101) + Int32.ofInt (if x k = 4 then 0 else p k)))) ∨ (¬ (∀ l, i ≤ l → l < k → G l = G k → x l = x k) ∧ r_X12_canLeave_40 x1 κ k r i U = (Int32.ofInt 0, U)) := by
  obtain ⟨h6, hp, hlm, hw, hl⟩ := hb
  have ek : (z_i k).toInt.toNat = k := z_iin (by omega)
  intro r
  induction r with
  | zero =>
    intro i U hi hU
    left
    refine ⟨fun l h1 h2 => by omega, ?_⟩
    have e1 : U 154 k = z_i (x k) := (hU 154 k (by omega)).trans (hV.2 k hk).2
    have e2 : U 152 k = T 152 k := (hU 152 k (by omega)).trans (hV.1 152 k (by omega))
    have e3 : U 117 ((T 152 k).toInt.toNat) = Int32.ofInt (p k) := ((hU 117 _ (by omega)).trans (hV.1 117 _ (by omega))).trans (hw k hk).1
    rw [r_X12_canLeave_40, ek, e1, e2, e3, show Int32.ofInt 4 = z_i 4 from rfl]
    by_cases q : x k = 4
    · rw [if_neg (not_not_intro ((z_ieq (hV.2 k hk).1 (by omega)).mpr q)), if_pos q, if_pos q]
    · rw [if_pos (fun m => q ((z_ieq (hV.2 k hk).1 (by omega)).mp m)), if_neg q, if_neg q]
  | succ r ih =>
    intro i U hi hU
    have ei : (z_i i).toInt.toNat = i := z_iin (by omega)
    have e1 : U 154 k = z_i (x k) := (hU 154 k (by omega)).trans (hV.2 k hk).2
    have e1' : U 154 i = z_i (x i) := (hU 154 i (by omega)).trans (hV.2 i (by omega)).2
    have e2 : U 152 k = T 152 k := (hU 152 k (by omega)).trans (hV.1 152 k (by omega))
    have e2' : U 152 i = T 152 i := (hU 152 i (by omega)).trans (hV.1 152 i (by omega))
    have e3 : U 121 ((T 152 k).toInt.toNat) = G k := ((hU 121 _ (by omega)).trans (hV.1 121 _ (by omega))).trans (hw k hk).2.1
    have e3' : U 121 ((T 152 i).toInt.toNat) = G i := ((hU 121 _ (by omega)).trans (hV.1 121 _ (by omega))).trans (hw i (by omega)).2.1
    rw [r_X12_canLeave_40, ek, ei, e1, e1', e2, e2', e3, e3']
    have nx : G i = G k → ¬ x i = x k → ¬ (∀ l, i ≤ l → l < k → G l = G k → x l = x k) := fun a b m => b (m i (Nat.le_refl i) (by omega) a)
    have st : (G i = G k → x i = x k) → ((∀ l, i + 1 ≤ l → l < k → G l = G k → x l = x k) ↔ ∀ l, i ≤ l → l < k → G l = G k → x l = x k) := by
      intro a
      constructor
      · intro m l h1 h2 h3
        by_cases e : l = i
        · rw [e] at h3 ⊢
          exact a h3
        · exact m l (by omega) h2 h3
      · intro m l h1 h2 h3
        exact m l (by omega) h2 h3
    by_cases q1 : G i = G k
    · rw [if_neg (not_not_intro q1)]
      by_cases q2 : x i = x k
      · rw [if_pos ((z_ieq (hV.2 i (by omega)).1 (hV.2 k hk).1).mpr q2)]
        rw [← st (fun _ => q2)]
        exact ih (i + 1) U (by omega) hU
      · rw [if_neg (fun m => q2 ((z_ieq (hV.2 i (by omega)).1 (hV.2 k hk).1).mp m))]
        exact Or.inr ⟨nx q1 q2, rfl⟩
    · rw [if_pos q1]
      rw [← st (fun m => absurd m q1)]
      exact ih (i + 1) U (by omega) hU
theorem z_canGo_f {g k : Int32} {U W : v_Sf} (f : ∀ a j, (a = 118 ∨ a = 156 ∨ a = 157) → U a j = W a j) : f_X12_canGo g k U = f_X12_canGo g k W := by
  unfold f_X12_canGo
  rw [f 156 _ (by omega), f 118 _ (by omega), f 157 _ (by omega)]
theorem z_cl12 (hb : z_BsM n p G cg lm T) (hV : z_opV n x T V) : ∀ (r k : Nat) (U : v_Sf), k + r = n → z_fV V U → U 99 100 = Int32.ofInt (z_gn x k) → U 99 101 = Int32.ofInt (z_sg p x k) → z_v12 G cg x k → (z_v12 G cg x n ∧ ∃ W, r_X12_canLeave_12 (z_i n) r k U = r_X12_canLeave_159 (z_i n) 4 0 W ∧ z_fV V W ∧ W 99 100 = Int32.ofInt (z_gn x n) ∧ W 99 101 = Int32.ofInt (z_sg p x n)) ∨ (¬ z_v12 G cg x n ∧ ∃ W, r_X12_canLeave_12 (z_i n) r k U = (Int32.ofInt 0, W) ∧ z_fV V W) := by
  obtain ⟨h6, hp, hlm, hw, hl⟩ := id hb
  intro r
  induction r with
  | zero =>
    intro k U hk hU h1 h2 v
    obtain rfl : k = n := by omega
    exact Or.inl ⟨v, U, rfl, hU, h1, h2⟩
  | succ r ih =>
    intro k U hk hU h1 h2 v
    have ek : (z_i k).toInt.toNat = k := z_iin (by omega)
    have e1 : U 154 k = z_i (x k) := (hU 154 k (by omega)).trans (hV.2 k (by omega)).2
    have e2 : U 152 k = T 152 k := (hU 152 k (by omega)).trans (hV.1 152 k (by omega))
    have e3 : f_X12_canGo (T 152 k) (z_i (x k)) U = f_X12_canGo (T 152 k) (z_i (x k)) T := z_canGo_f (fun a j q => (hU a j (by omega)).trans (hV.1 a j (by omega)))
    have xk := (hV.2 k (by omega)).1
    have e4 : (¬ f_X12_canGo (T 152 k) (z_i (x k)) T = 0) ↔ (x k = 4 ∨ x k < 4 ∧ cg k (x k)) := by
      by_cases q : x k = 4
      · refine ⟨fun _ => Or.inl q, fun _ => ?_⟩
        unfold f_X12_canGo
        rw [q, if_neg (show ¬ ¬ z_i 4 = Int32.ofInt 4 from not_not_intro rfl)]
        decide
      · rw [← ((hw k (by omega)).2.2 (x k) (by omega)).1]
        exact ⟨fun m => Or.inr ⟨by omega, m⟩, fun m => m.elim (fun z => absurd z q) (fun z => z.2)⟩
    rw [r_X12_canLeave_12, ek, e1, e2, e3]
    by_cases q : x k = 4 ∨ x k < 4 ∧ cg k (x k)
    · rw [if_pos (e4.mpr q), show k - 0 = k by omega]
      rcases z_cl40 hb hV (z_i n) (fun S => r_X12_canLeave_12 (z_i n) r (k + 1) S) (show k < n by omega) k 0 U (by omega) hU with ⟨a1, a2⟩ | ⟨a1, a2⟩
      · rw [a2]
        refine ih (k + 1) _ (by omega) (fun a j m => ?_) ?_ ?_ ⟨fun j hj => ?_, fun j l hj hlj hg => ?_⟩
        · rw [z_sn (by omega), z_sn (by omega)]
          exact hU a j m
        · rw [z_sn (by omega), z_ss, h1, z_oia, z_gn]
        · rw [z_ss, h2, z_oia, z_sg]
        · by_cases e : j = k
          · rw [e]
            exact q
          · exact v.1 j (by omega)
        · by_cases e : j = k
          · rw [e] at hlj hg ⊢
            exact a1 l (by omega) hlj hg
          · exact v.2 j l (by omega) hlj hg
      · right
        refine ⟨fun w => a1 (fun l _ h3 h4 => w.2 k l (by omega) h3 h4), U, a2, hU⟩
    · rw [if_neg (fun m => q (e4.mp m))]
      right
      exact ⟨fun w => q (w.1 k (by omega)), U, rfl, hU⟩
theorem z_cl169 (hb : z_BsM n p G cg lm T) (hV : z_opV n x T V) (x1 : Int32) (κ : v_Sf → Int32 × v_Sf) {w : Nat} (hw4 : w < 4) {U : v_Sf} (hU : z_fV V U) : ∀ (r i : Nat) (acc : Int32), i + r = n → acc = Int32.ofInt (z_ld p x w i) → r_X12_canLeave_169 x1 κ w r i acc U = if U 156 w = 0 then κ U else (if Int32.ofInt (z_ld p x w n) ≤ U 158 w then κ U else (Int32.ofInt 0, U)) := by
  obtain ⟨h6, hp, hlm, hw, hl⟩ := id hb
  have ew : (z_i w).toInt.toNat = w := z_iin (by omega)
  intro r
  induction r with
  | zero =>
    intro i acc hi ha
    obtain rfl : i = n := by omega
    rw [r_X12_canLeave_169, ew, ha]
  | succ r ih =>
    intro i acc hi ha
    have ei : (z_i i).toInt.toNat = i := z_iin (by omega)
    have e1 : U 154 i = z_i (x i) := (hU 154 i (by omega)).trans (hV.2 i (by omega)).2
    have e2 : U 152 i = T 152 i := (hU 152 i (by omega)).trans (hV.1 152 i (by omega))
    have e3 : U 117 ((T 152 i).toInt.toNat) = Int32.ofInt (p i) := ((hU 117 _ (by omega)).trans (hV.1 117 _ (by omega))).trans (hw i (by omega)).1
    rw [r_X12_canLeave_169, ei, e1, e2, e3]
    by_cases q : x i = w
    · rw [if_neg (not_not_intro ((z_ieq (hV.2 i (by omega)).1 (by omega)).mpr q))]
      exact ih (i + 1) _ (by omega) (by rw [ha, z_oia, z_ld, if_pos q])
    · rw [if_pos (fun m => q ((z_ieq (hV.2 i (by omega)).1 (by omega)).mp m))]
      exact ih (i + 1) _ (by omega) (by rw [ha, z_oia, z_ld, if_neg q])
theorem z_cl159 (hb : z_BsM n p G cg lm T) (hV : z_opV n x T V) {U : v_Sf} (hU : z_fV V U) : ∀ (r w : Nat), w + r = 4 → ((∀ k, w ≤ k → k < 4 → ¬ T 156 k = 0 → z_ld p x k n ≤ lm k) ∧ r_X12_canLeave_159 (z_i n) r w U = (Int32.ofInt 1, U)) ∨ (¬ (∀ k, w ≤ k → k < 4 → ¬ T 156 k = 0 → z_ld p x k n ≤ lm k) ∧ r_X12_canLeave_159 (z_i n) r w U = (Int32.ofInt 0, U)) := by
  obtain ⟨h6, hp, hlm, hw, hl⟩ := id hb
  have en : (z_i n).toInt.toNat = n := z_iin (by omega)
  intro r
  induction r with
  | zero =>
    intro w hw4
    exact Or.inl ⟨fun k h1 h2 => by omega, rfl⟩
  | succ r ih =>
    intro w hw4
    have e1 : U 156 w = T 156 w := (hU 156 w (by omega)).trans (hV.1 156 w (by omega))
    have e2 : U 158 w = T 158 w := (hU 158 w (by omega)).trans (hV.1 158 w (by omega))
    rw [r_X12_canLeave_159, en, show n - 0 = n by omega, z_cl169 hb hV (z_i n) _ (w := w) (by omega) hU n 0 (Int32.ofInt 0) (by omega) rfl, e1, e2]
    have st : (¬ T 156 w = 0 → z_ld p x w n ≤ lm w) → ((∀ k, w + 1 ≤ k → k < 4 → ¬ T 156 k = 0 → z_ld p x k n ≤ lm k) ↔ ∀ k, w ≤ k → k < 4 → ¬ T 156 k = 0 → z_ld p x k n ≤ lm k) := by
      intro a
      constructor
      · intro m k h1 h2 h3
        by_cases e : k = w
        · rw [e] at h3 ⊢
          exact a h3
        · exact m k (by omega) h2 h3
      · intro m k h1 h2 h3
        exact m k (by omega) h2 h3
    by_cases q : T 156 w = 0
    · rw [if_pos q, ← st (fun m => absurd q m)]
      exact ih (w + 1) (by omega)
    · have b1 := z_ld_b hp x w n
      have b2 := hlm w
      rw [if_neg q, hl w (by omega) q]
      by_cases q2 : z_ld p x w n ≤ lm w
      · rw [if_pos ((z_oile (by omega) (by omega)).mpr q2), ← st (fun _ => q2)]
        exact ih (w + 1) (by omega)
      · rw [if_neg (fun m => q2 ((z_oile (by omega) (by omega)).mp m))]
        exact Or.inr ⟨fun m => q2 (m w (Nat.le_refl w) (by omega) q), rfl⟩
theorem z_ld0 {k : Nat} : ∀ i, (∀ j, j < i → x j ≠ k) → z_ld p x k i = 0 := by
  intro i
  induction i with
  | zero => intro _; rfl
  | succ i ih =>
    intro h
    rw [z_ld, ih (fun j hj => h j (by omega)), if_neg (h i (by omega))]
    rfl
theorem z_vp_iff (hb : z_BsM n p G cg lm T) : z_vp p (fun l j => G l = G j) cg lm x n ↔ z_v12 G cg x n ∧ ∀ k, k < 4 → ¬ T 156 k = 0 → z_ld p x k n ≤ lm k := by
  obtain ⟨h6, hp, hlm, hw, hl⟩ := id hb
  constructor
  · rintro ⟨a, b, c⟩
    exact ⟨⟨a, b⟩, fun k hk _ => c k hk⟩
  · rintro ⟨⟨a, b⟩, c⟩
    refine ⟨a, b, fun k hk => ?_⟩
    by_cases q : T 156 k = 0
    · rw [z_ld0 n (fun j hj e => ?_)]
      · exact (hlm k).1
      · rcases a j hj with a | a
        · omega
        · rw [e] at a
          exact ((hw j hj).2.2 k hk).2 a.2 q
    · exact c k hk q
theorem z_cl (hb : z_BsM n p G cg lm T) (hV : z_opV n x T V) : (z_vp p (fun l j => G l = G j) cg lm x n ∧ f_X12_canLeave (z_i n) V = Int32.ofInt 1 ∧ z_fV V (g_X12_canLeave (z_i n) V) ∧ g_X12_canLeave (z_i n) V 99 100 = Int32.ofInt (z_gn x n) ∧ g_X12_canLeave (z_i n) V 99 101 = Int32.ofInt (z_sg p x n)) ∨ (¬ z_vp p (fun l j => G l = G j) cg lm x n ∧ f_X12_canLeave (z_i n) V = Int32.ofInt 0 ∧ z_fV V (g_X12_canLeave (z_i n) V)) := by
  have h6 := hb.1
  have en : (z_i n).toInt.toNat = n := z_iin (by omega)
  unfold f_X12_canLeave g_X12_canLeave F_X12_canLeave
  rw [en, show n - 0 = n by omega, z_vp_iff hb]
  have k0 : z_fV V (z_s (z_s V 99 100 (Int32.ofInt 0)) 99 101 (Int32.ofInt 0)) := fun a j m => by rw [z_sn (by omega), z_sn (by omega)]
  rcases z_cl12 hb hV n 0 _ (by omega) k0 (by rw [z_sn (by omega), z_ss]; rfl) (by rw [z_ss]; rfl) ⟨fun j hj => by omega, fun j l hj => by omega⟩ with ⟨a1, W, a2, a3, a4, a5⟩ | ⟨a1, W, a2, a3⟩
  · rw [a2]
    rcases z_cl159 hb hV a3 4 0 (by omega) with ⟨b1, b2⟩ | ⟨b1, b2⟩
    · rw [b2]
      exact Or.inl ⟨⟨a1, fun k hk q => b1 k (by omega) hk q⟩, rfl, a3, a4, a5⟩
    · rw [b2]
      exact Or.inr ⟨fun m => b1 (fun k _ hk q => m.2 k hk q), rfl, a3⟩
  · rw [a2]
    exact Or.inr ⟨fun m => a1 m.1, rfl, a3⟩
noncomputable def z_Jm (n : Nat) (B : z_Bt) (T U : v_Sf) : Prop := (∀ a j, ¬ (a = 154 ∨ a = 155 ∨ a = 99 ∧ 100 ≤ j ∧ j ≤ 103) → U a j = T a j) ∧ U 99 102 = Int32.ofInt B.1 ∧ U 99 103 = Int32.ofInt B.2.1 ∧ (0 ≤ B.1 → ∀ j, j < n → U 155 j = z_i (B.2.2 j)) ∧ (-1 ≤ B.1 ∧ B.1 ≤ 6 ∧ -1 ≤ B.2.1 ∧ B.2.1 ≤ 600)
theorem z_keepR : ∀ (r k : Nat) (U : v_Sf), k + r ≤ 6 → ∃ W, r_X12_keepsRow_2 (z_i n) r k U = W ∧ (∀ j, k ≤ j → j < k + r → W 155 j = U 154 j) ∧ (∀ a j, a ≠ 155 → W a j = U a j) ∧ (∀ j, j < k → W 155 j = U 155 j) := by
  intro r
  induction r with
  | zero =>
    intro k U _
    exact ⟨U, rfl, fun j h1 h2 => by omega, fun a j _ => rfl, fun j _ => rfl⟩
  | succ r ih =>
    intro k U hk
    have ek : (z_i k).toInt.toNat = k := z_iin (by omega)
    rw [r_X12_keepsRow_2, ek]
    obtain ⟨W, w1, w2, w3, w4⟩ := ih (k + 1) (z_s U 155 k (U 154 k)) (by omega)
    refine ⟨W, w1, fun j h1 h2 => ?_, fun a j h1 => ?_, fun j h1 => ?_⟩
    · by_cases q : j = k
      · rw [q, w4 k (by omega), z_ss]
      · rw [w2 j (by omega) (by omega), z_sn (by omega)]
    · rw [w3 a j h1, z_sn (by omega)]
    · rw [w4 j (by omega), z_sn (by omega)]
/-- one row more -/
theorem z_llst (hb : z_BsM n p G cg lm T) {B : z_Bt} {U : v_Sf} (J : z_Jm n B T U) {k : Nat} (hk : k < 1000000) : ∃ W, (∀ R, r_X12_laysLeaving_12 (z_i n) (R + 1) k U = r_X12_laysLeaving_12 (z_i n) R (k + 1) W) ∧ z_Jm n (z_stp n p (fun l j => G l = G j) cg lm (z_dg n k) B) T W := by
  obtain ⟨h6, hp, hlm, hw, hl⟩ := id hb
  obtain ⟨j1, j2, j3, j4, j5⟩ := J
  have en : (z_i n).toInt.toNat = n := z_iin (by omega)
  have en1 : z_i n - Int32.ofInt 1 = Int32.ofInt ((n : Int) - 1) := by
    unfold z_i
    rw [z_ois]
  obtain ⟨V, v1, v2, v3⟩ := z_opn n k U h6 hk
  have eV : g_X12_opensRow (z_i k) (z_i n) (Int32.ofInt 5) U = V := by
    unfold g_X12_opensRow F_X12_opensRow
    rw [en1, q_ofr (by omega) (by omega), show ((n : Int) - 1 + 1).toNat = n by omega]
    exact v1
  have hV : z_opV n (z_dg n k) T V := by
    refine ⟨fun a j m => ?_, fun j hj => ⟨?_, v2 j hj⟩⟩
    · rw [v3 a j (by omega)]
      exact j1 a j m
    · unfold z_dg
      have := Nat.mod_lt (k / 5 ^ (n - 1 - j)) (show 0 < 5 by decide)
      omega
  have gb := z_gn_b (z_dg n k) n
  have sb := z_sg_b hp (z_dg n k) n
  have cl := z_cl hb hV
  have hst : z_stp n p (fun l j => G l = G j) cg lm (z_dg n k) B = @ite _ (z_vp p (fun l j => G l = G j) cg lm (z_dg n k) n ∧ z_bet B (z_gn (z_dg n k) n) (z_sg p (z_dg n k) n)) (Classical.propDecidable _) (z_gn (z_dg n k) n, z_sg p (z_dg n k) n, z_dg n k) B := rfl
  rw [hst]
  have unf : ∀ R, r_X12_laysLeaving_12 (z_i n) (R + 1) k U = if f_X12_canLeave (z_i n) V = 0 then r_X12_laysLeaving_12 (z_i n) R (k + 1) (g_X12_canLeave (z_i n) V) else (if (g_X12_canLeave (z_i n) V 99 100) < (g_X12_canLeave (z_i n) V 99 102) then r_X12_laysLeaving_12 (z_i n) R (k + 1) (g_X12_canLeave (z_i n) V) else (if ¬ (g_X12_canLeave (z_i n) V 99 100) = (g_X12_canLeave (z_i n) V 99 102) then r_X12_laysLeaving_12 (z_i n) R (k + 1) (g_X12_keepsRow (z_i n) (z_s (z_s (g_X12_canLeave (z_i n) V) 99 102 (g_X12_canLeave (z_i n) V 99 100)) 99 103 (g_X12_canLeave (z_i n) V 99 101))) else (if (g_X12_canLeave (z_i n) V 99 103) < (g_X12_canLeave (z_i n) V 99 101) then r_X12_laysLeaving_12 (z_i n) R (k + 1) (g_X12_keepsRow (z_i n) (z_s (z_s (g_X12_canLeave (z_i n) V) 99 102 (g_X12_canLeave (z_i n) V 99 100)) 99 103 (g_X12_canLeave (z_i n) V 99 101))) else r_X12_laysLeaving_12 (z_i n) R (k + 1) (g_X12_canLeave (z_i n) V)))) := by
    intro R
    rw [r_X12_laysLeaving_12, eV]
  generalize g_X12_canLeave (z_i n) V = C at cl unf
  have stay : z_fV V C → z_Jm n B T C := by
    intro f
    refine ⟨fun a j m => ?_, ?_, ?_, fun m j hj => ?_, j5⟩
    · rw [f a j (by omega), v3 a j (by omega)]
      exact j1 a j m
    · rw [f 99 102 (by omega), v3 99 102 (by omega)]
      exact j2
    · rw [f 99 103 (by omega), v3 99 103 (by omega)]
      exact j3
    · rw [f 155 j (by omega), v3 155 j (by omega)]
      exact j4 m j hj
  rcases cl with ⟨c1, c2, c3, c4, c5⟩ | ⟨c1, c2, c3⟩
  · have J0 := stay c3
    have take : z_Jm n (z_gn (z_dg n k) n, z_sg p (z_dg n k) n, z_dg n k) T (g_X12_keepsRow (z_i n) (z_s (z_s C 99 102 (C 99 100)) 99 103 (C 99 101))) := by
      unfold g_X12_keepsRow F_X12_keepsRow
      obtain ⟨W, w1, w2, w3, w4⟩ := z_keepR (n := n) n 0 (z_s (z_s C 99 102 (C 99 100)) 99 103 (C 99 101)) (by omega)
      rw [en, show n - 0 = n by omega, w1]
      refine ⟨fun a j m => ?_, ?_, ?_, fun m j hj => ?_, ?_⟩
      · rw [w3 a j (by omega), z_sn (by omega), z_sn (by omega)]
        exact J0.1 a j m
      · rw [w3 _ _ (by omega), z_sn (by omega), z_ss]
        exact c4
      · rw [w3 _ _ (by omega), z_ss]
        exact c5
      · rw [w2 j (by omega) (by omega), z_sn (by omega), z_sn (by omega), c3 154 j (by omega)]
        exact v2 j hj
      · show -1 ≤ z_gn (z_dg n k) n ∧ z_gn (z_dg n k) n ≤ 6 ∧ -1 ≤ z_sg p (z_dg n k) n ∧ z_sg p (z_dg n k) n ≤ 600
        omega
    have e0 : ¬ f_X12_canLeave (z_i n) V = 0 := by
      rw [c2]
      decide
    have L1 := z_oil (a := z_gn (z_dg n k) n) (b := B.1) (by omega) (by omega)
    have L2 := z_oie (a := z_gn (z_dg n k) n) (b := B.1) (by omega) (by omega)
    have L3 := z_oil (a := B.2.1) (b := z_sg p (z_dg n k) n) (by omega) (by omega)
    rw [J0.2.1, J0.2.2.1, c4, c5] at unf
    rw [c4, c5] at take
    by_cases q1 : z_gn (z_dg n k) n < B.1
    · rw [if_neg (fun m => by have := m.2; unfold z_bet at this; omega)]
      exact ⟨C, fun R => by rw [unf, if_neg e0, if_pos (L1.mpr q1)], J0⟩
    · by_cases q2 : z_gn (z_dg n k) n = B.1
      · by_cases q3 : B.2.1 < z_sg p (z_dg n k) n
        · rw [if_pos ⟨c1, Or.inr ⟨q2, q3⟩⟩]
          exact ⟨_, fun R => by rw [unf, if_neg e0, if_neg (fun m => q1 (L1.mp m)), if_neg (not_not_intro (L2.mpr q2)), if_pos (L3.mpr q3)], take⟩
        · rw [if_neg (fun m => by have := m.2; unfold z_bet at this; omega)]
          exact ⟨C, fun R => by rw [unf, if_neg e0, if_neg (fun m => q1 (L1.mp m)), if_neg (not_not_intro (L2.mpr q2)), if_neg (fun m => q3 (L3.mp m))], J0⟩
      · rw [if_pos ⟨c1, Or.inl (by omega)⟩]
        exact ⟨_, fun R => by rw [unf, if_neg e0, if_neg (fun m => q1 (L1.mp m)), if_pos (fun m => q2 (L2.mp m))], take⟩
  · rw [if_neg (fun m => c1 m.1)]
    exact ⟨C, fun R => by rw [unf, if_pos (show f_X12_canLeave (z_i n) V = 0 from c2)], stay c3⟩
theorem z_ll (hb : z_BsM n p G cg lm T) : ∀ (R k : Nat) (B : z_Bt) (U : v_Sf), k + R < 1000000 → z_Jm n B T U → z_Jm n (z_enu n p (fun l j => G l = G j) cg lm R k B) T (r_X12_laysLeaving_12 (z_i n) R k U) := by
  intro R
  induction R with
  | zero =>
    intro k B U _ J
    exact J
  | succ R ih =>
    intro k B U hk J
    obtain ⟨W, w1, w2⟩ := z_llst hb J (k := k) (by omega)
    rw [w1, z_enu]
    exact ih (k + 1) _ W (by omega) w2
end CL
