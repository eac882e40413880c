/-! letting go: both searches, from the start -/
theorem z_spr90 {X : Nat} (h6 : z_cn X 12 ≤ 6) : ∀ (r k : Nat) (U : v_Sf), k + r = 12 → ∃ W, r_spread90_4 (z_i X) r k (z_i (z_cn X k)) U = (z_i (z_cn X 12), W) ∧ (∀ i, i < z_cn X k → W 90 i = U 90 i) ∧ (∀ j, k ≤ j → j < 12 → X.testBit j = true → W 90 (z_cn X j) = z_i j) ∧ (∀ a j, a ≠ 90 → W a j = U a j) := by
  intro r
  induction r with
  | zero =>
    intro k U hk
    obtain rfl : k = 12 := by omega
    exact ⟨U, by rw [r_spread90_4], fun i _ => rfl, fun j h1 h2 => by omega, fun a j _ => rfl⟩
  | succ r ih =>
    intro k U hk
    have hm := z_cn_le X (12 - k) k
    rw [show k + (12 - k) = 12 by omega] at hm
    have hc1 : z_cn X (k + 1) = z_cn X k + (if X.testBit k then 1 else 0) := rfl
    rw [r_spread90_4]
    by_cases q : z_cn X k = 6
    · rw [if_pos (by rw [q]; decide)]
      refine ⟨U, by rw [show z_cn X k = z_cn X 12 by omega], fun i _ => rfl, fun j h1 h2 h3 => ?_, fun a j _ => rfl⟩
      have := z_cn_lt h2 h3
      have := z_cn_le X (j - k) k
      rw [show k + (j - k) = j by omega] at this
      omega
    · rw [if_neg (by rw [show Int32.ofNat 6 = z_i 6 by decide, z_ile (by omega) (by omega)]; omega)]
      have hI := z_isInN (X := X) (g := k) (by omega)
      by_cases t : X.testBit k = true
      · rw [if_pos t] at hc1
        rw [if_neg (fun m => by rw [hI.mp m] at t; cases t), z_iin (show z_cn X k < 2147483648 by omega), show z_i (z_cn X k) + Int32.ofInt 1 = z_i (z_cn X (k + 1)) by rw [hc1]; exact z_i1 _]
        obtain ⟨W, w1, w2, w3, w4⟩ := ih (k + 1) (z_s U 90 (z_cn X k) (z_i k)) (by omega)
        refine ⟨W, w1, fun i hi => ?_, fun j h1 h2 h3 => ?_, fun a j h1 => ?_⟩
        · rw [w2 i (by omega), z_sn (by omega)]
        · by_cases e : j = k
          · rw [e, w2 _ (by omega), z_ss]
          · exact w3 j (by omega) h2 h3
        · rw [w4 a j h1, z_sn (by omega)]
      · have t2 : X.testBit k = false := by simpa using t
        rw [if_neg t] at hc1
        rw [if_pos (hI.mpr t2), show z_cn X k = z_cn X (k + 1) by omega]
        obtain ⟨W, w1, w2, w3, w4⟩ := ih (k + 1) U (by omega)
        refine ⟨W, w1, w2, fun j h1 h2 h3 => ?_, w4⟩
        by_cases e : j = k
        · rw [e] at h3
          exact absurd h3 t
        · exact w3 j (by omega) h2 h3
theorem z_tks {X : Nat} : ∀ (r k : Nat) (U : v_Sf), k + r = 12 → ∃ W, r_X12_takesSome_4 (z_i X) r k (z_i (z_cn X k)) U = (z_i (z_cn X 12), W) ∧ (∀ i, i < z_cn X k → W 152 i = U 152 i) ∧ (∀ j, k ≤ j → j < 12 → X.testBit j = true → W 152 (z_cn X j) = z_i j) ∧ (∀ a j, a ≠ 152 → W a j = U a j) := by
  have hc := z_cn12 X
  intro r
  induction r with
  | zero =>
    intro k U hk
    obtain rfl : k = 12 := by omega
    exact ⟨U, by rw [r_X12_takesSome_4], fun i _ => rfl, fun j h1 h2 => by omega, fun a j _ => rfl⟩
  | succ r ih =>
    intro k U hk
    have hm := z_cn_le X (12 - k) k
    rw [show k + (12 - k) = 12 by omega] at hm
    have hc1 : z_cn X (k + 1) = z_cn X k + (if X.testBit k then 1 else 0) := rfl
    have hI := z_hasN0 (X := X) (g := k) (by omega)
    rw [r_X12_takesSome_4]
    by_cases t : X.testBit k = true
    · rw [if_pos t] at hc1
      rw [if_pos (fun m => by rw [hI.mp m] at t; cases t), z_iin (show z_cn X k < 2147483648 by omega), show z_i (z_cn X k) + Int32.ofInt 1 = z_i (z_cn X (k + 1)) by rw [hc1]; exact z_i1 _]
      obtain ⟨W, w1, w2, w3, w4⟩ := ih (k + 1) (z_s U 152 (z_cn X k) (z_i k)) (by omega)
      refine ⟨W, w1, fun i hi => ?_, fun j h1 h2 h3 => ?_, fun a j h1 => ?_⟩
      · rw [w2 i (by omega), z_sn (by omega)]
      · by_cases e : j = k
        · rw [e, w2 _ (by omega), z_ss]
        · exact w3 j (by omega) h2 h3
      · rw [w4 a j h1, z_sn (by omega)]
    · have t2 : X.testBit k = false := by simpa using t
      rw [if_neg t] at hc1
      rw [if_neg (not_not_intro (hI.mpr t2)), show z_cn X k = z_cn X (k + 1) by omega]
      obtain ⟨W, w1, w2, w3, w4⟩ := ih (k + 1) U (by omega)
      refine ⟨W, w1, w2, fun j h1 h2 h3 => ?_, w4⟩
      by_cases e : j = k
      · rw [e] at h3
        exact absurd h3 t
      · exact w3 j (by omega) h2 h3
theorem z_fill89 (v : Int32) (S : v_Sf) : ∀ a j, g_fill89 v S a j = if a = 89 ∧ j < 4 then v else S a j := by
  have lp : ∀ (r k : Nat) (S : v_Sf) (a j : Nat), r + k = 4 → r_fill89_5 v (Int32.ofNat 4) r k S a j = if a = 89 ∧ k ≤ j ∧ j < 4 then v else S a j := by
    intro r
    induction r with
    | zero =>
      intro k S a j h
      rw [r_fill89_5, if_neg (by omega)]
    | succ r ih =>
      intro k S a j h
      rw [r_fill89_5, ih (k + 1) _ a j (by omega), z_iin (by omega), z_s_eq]
      by_cases q : a = 89 ∧ k ≤ j ∧ j < 4
      · rw [if_pos q]
        by_cases q2 : j = k
        · rw [if_neg (by omega), if_pos (by omega)]
        · rw [if_pos (by omega)]
      · rw [if_neg q, if_neg (by omega), if_neg (by omega)]
  intro a j
  have := lp 4 0 S a j (by omega)
  unfold g_fill89 F_fill89
  rw [show ((Int32.ofNat 4)).toInt.toNat - 0 = 4 from rfl, this]
  by_cases q : a = 89 ∧ j < 4
  · rw [if_pos q, if_pos (by omega)]
  · rw [if_neg q, if_neg (by omega)]
/-- how strong those from a place on are -/
theorem z_sfl {n : Nat} {p : Nat → Int} (h6 : n ≤ 6) {Sb : v_Sf} (hw : ∀ i, i < n → Sb 2 ((Sb 90 i).toInt.toNat) = Int32.ofInt (p i)) : ∀ (r : Nat) (U : v_Sf), r ≤ n → (∀ i, r ≤ i → i ≤ n → U 91 i = Int32.ofInt (z_sf p (n - i) i)) → (∀ a j, a ≠ 91 → U a j = Sb a j) → ∃ V, r_X10_sendOff_29 r (Int32.ofInt ((r : Int) - 1)) U = g_send (Int32.ofInt 0) (Int32.ofInt 0) (Int32.ofInt 0) (z_s (z_s (g_fill89 (Int32.ofInt 0) V) 86 9 (Int32.ofInt (-1))) 86 10 (Int32.ofInt (-1))) ∧ (∀ i, i ≤ n → V 91 i = Int32.ofInt (z_sf p (n - i) i)) ∧ (∀ a j, a ≠ 91 → V a j = Sb a j) := by
  intro r
  induction r with
  | zero =>
    intro U hr h1 h2
    exact ⟨U, rfl, fun i hi => h1 i (by omega) hi, h2⟩
  | succ r ih =>
    intro U hr h1 h2
    have e1 : Int32.ofInt (((r + 1 : Nat) : Int) - 1) = z_i r := by
      unfold z_i
      congr 1
      omega
    have e2 : z_i r + Int32.ofInt (-1) = Int32.ofInt ((r : Int) - 1) := by
      unfold z_i
      rw [z_oia]
      rfl
    have er : (z_i r).toInt.toNat = r := z_iin (by omega)
    have er1 : (z_i (r + 1)).toInt.toNat = r + 1 := z_iin (by omega)
    rw [r_X10_sendOff_29, e1, e2, show z_i r + Int32.ofInt 1 = z_i (r + 1) from z_i1 r, er, er1, h1 (r + 1) (by omega) (by omega), h2 90 r (by omega), h2 2 _ (by omega), hw r (by omega), z_oia]
    refine ih _ (by omega) (fun i hi1 hi2 => ?_) (fun a j q => ?_)
    · by_cases q : i = r
      · rw [q, z_ss, show n - r = (n - (r + 1)) + 1 by omega, z_sf, Int.add_comm]
      · rw [z_sn (by omega)]
        exact h1 i (by omega) hi2
    · rw [z_sn (by omega)]
      exact h2 a j q
theorem z_adj_all : ∀ q u : Fin 8, (decide (((z_i q.val - z_i u.val) &&& (Int32.ofInt 7)) ≤ Int32.ofInt 1) || decide (((z_i q.val - z_i u.val) &&& (Int32.ofInt 7)) = Int32.ofInt 7)) = (decide ((((z_i u.val - z_i q.val) + (Int32.ofInt 8)) - ((z_i u.val - z_i q.val) + (Int32.ofInt 8)) / (Int32.ofInt 8) * (Int32.ofInt 8)) = 0) || decide ((((z_i u.val - z_i q.val) + (Int32.ofInt 8)) - ((z_i u.val - z_i q.val) + (Int32.ofInt 8)) / (Int32.ofInt 8) * (Int32.ofInt 8)) = Int32.ofInt 1) || decide ((((z_i u.val - z_i q.val) + (Int32.ofInt 8)) - ((z_i u.val - z_i q.val) + (Int32.ofInt 8)) / (Int32.ofInt 8) * (Int32.ofInt 8)) = Int32.ofInt 7)) := by decide +kernel
theorem z_adjE {q u : Int32} (hq : 0 ≤ q.toInt ∧ q.toInt ≤ 7) (hu : 0 ≤ u.toInt ∧ u.toInt ≤ 7) : z_adj q u ↔ (((u - q) + (Int32.ofInt 8)) - ((u - q) + (Int32.ofInt 8)) / (Int32.ofInt 8) * (Int32.ofInt 8)) = 0 ∨ (((u - q) + (Int32.ofInt 8)) - ((u - q) + (Int32.ofInt 8)) / (Int32.ofInt 8) * (Int32.ofInt 8)) = Int32.ofInt 1 ∨ (((u - q) + (Int32.ofInt 8)) - ((u - q) + (Int32.ofInt 8)) / (Int32.ofInt 8) * (Int32.ofInt 8)) = Int32.ofInt 7 := by
  obtain ⟨a, ha, rfl⟩ : ∃ a, a < 8 ∧ q = z_i a := ⟨q.toInt.toNat, by omega, (z_ofN hq.1).symm⟩
  obtain ⟨b, hb, rfl⟩ : ∃ b, b < 8 ∧ u = z_i b := ⟨u.toInt.toNat, by omega, (z_ofN hu.1).symm⟩
  have h := z_adj_all ⟨a, ha⟩ ⟨b, hb⟩
  simp only at h
  unfold z_adj
  rw [← Bool.coe_iff_coe] at h
  simp only [Bool.or_eq_true, decide_eq_true_iff] at h
  rw [h, or_assoc]
/-- who can go with which wind: both sides alike -/
theorem z_canGoE {S T : v_Sf} {g k : Nat} (hk : k < 4) (hO : z_Ot S T) (hq : z_qr (S 3 g) (T 118 g)) (hg : g < 12) : (¬ f_X12_canGo (z_i g) (z_i k) T = 0) ↔ (¬ f_X11_isIn (S 86 0) (z_i k) = 0 ∧ ¬ S 3 g = Int32.ofInt 8 ∧ z_adj (S 3 g) (S 87 k)) := by
  obtain ⟨⟨o0, o1⟩, o2, o3, -⟩ := hO
  obtain ⟨e2, e2l, e2h⟩ := o2 k hk
  obtain ⟨M, hM, hMe⟩ : ∃ M, M < 16 ∧ S 86 0 = z_i M := ⟨(S 86 0).toInt.toNat, by omega, (z_ofN o0.1).symm⟩
  have hI := z_isInN (X := M) (g := k) (by omega)
  have ho := o1 k hk
  rw [hMe, z_bitN (by omega)] at ho
  have ek : (z_i k).toInt.toNat = k := z_iin (by omega)
  have eg : (z_i g).toInt.toNat = g := z_iin (by omega)
  have n0 : ¬ (¬ Int32.ofInt 0 = 0) := not_not_intro rfl
  unfold f_X12_canGo
  rw [if_pos (show ¬ z_i k = Int32.ofInt 4 from fun m => by have := (z_ieq (b := 4) (show k ≤ 4 by omega) (Nat.le_refl 4)).mp m; omega), ek, eg, hMe]
  by_cases q1 : T 156 k = 0
  · rw [if_pos q1]
    refine ⟨fun m => absurd m n0, fun m => ?_⟩
    refine absurd (hI.mpr ?_) m.1
    have : ¬ M.testBit k = true := fun z => ho.mp z q1
    simpa using this
  · rw [if_neg q1]
    have i1 : ¬ f_X11_isIn (z_i M) (z_i k) = 0 := fun m => by
      have := ho.mpr q1
      rw [hI.mp m] at this
      cases this
    rcases hq with ⟨a, b⟩ | ⟨a, b⟩
    · rw [b, if_neg (not_not_intro rfl)]
      exact ⟨fun m => absurd m n0, fun m => absurd a m.2.1⟩
    · have nb : ¬ T 118 g = Int32.ofInt (-1) := fun m => by
        rw [m] at b
        exact absurd b.1 (by decide)
      have na : ¬ S 3 g = Int32.ofInt 8 := fun m => by
        rw [← a, m] at b
        exact absurd b.2 (by decide)
      have ad := z_adjE (q := S 3 g) (u := S 87 k) (by rw [a]; exact b) (by rw [e2]; exact ⟨e2l, e2h⟩)
      rw [if_pos nb, ← a, ← e2]
      rw [ad]
      by_cases c0 : (((S 87 k - S 3 g) + (Int32.ofInt 8)) - ((S 87 k - S 3 g) + (Int32.ofInt 8)) / (Int32.ofInt 8) * (Int32.ofInt 8)) = 0
      · rw [if_pos c0]
        exact ⟨fun _ => ⟨i1, na, Or.inl c0⟩, fun _ => by decide⟩
      · rw [if_neg c0]
        by_cases c1 : (((S 87 k - S 3 g) + (Int32.ofInt 8)) - ((S 87 k - S 3 g) + (Int32.ofInt 8)) / (Int32.ofInt 8) * (Int32.ofInt 8)) = Int32.ofInt 1
        · rw [if_pos c1]
          exact ⟨fun _ => ⟨i1, na, Or.inr (Or.inl c1)⟩, fun _ => by decide⟩
        · rw [if_neg c1]
          by_cases c7 : (((S 87 k - S 3 g) + (Int32.ofInt 8)) - ((S 87 k - S 3 g) + (Int32.ofInt 8)) / (Int32.ofInt 8) * (Int32.ofInt 8)) = Int32.ofInt 7
          · rw [if_neg (not_not_intro c7)]
            exact ⟨fun _ => ⟨i1, na, Or.inr (Or.inr c7)⟩, fun _ => by decide⟩
          · rw [if_pos c7]
            exact ⟨fun m => absurd m n0, fun m => (m.2.2.elim c0 (fun z => z.elim c1 c7)).elim⟩
theorem z_pw_all : ∀ n : Fin 7, f_X12_powerOf (Int32.ofInt 5) (z_i n.val) = z_i (5 ^ n.val) := by decide +kernel
/-- the whole of both searches -/
theorem z_send_ok {c b : Nat} {S T : v_Sf} (h : z_Rel c b S T) {X : Nat} (hX : X < 4096) (h1 : 1 ≤ z_cn X 12) (h6 : z_cn X 12 ≤ 6) (ht : ∀ g, g < 12 → X.testBit g = true → ¬ T 116 g = 0) : ∃ S' T', g_X10_sendOff (z_i X) S = S' ∧ f_X12_takesSome (z_i X) T = z_i (z_cn X 12) ∧ g_X12_laysLeaving (z_i (z_cn X 12)) (g_X12_takesSome (z_i X) T) = T' ∧ S' 86 9 = T' 99 102 ∧ S' 86 10 = T' 99 103 ∧ (∀ j, j < z_cn X 12 → S' 93 j = T' 155 j) ∧ (∀ j, j < 12 → X.testBit j = true → T' 152 (z_cn X j) = z_i j) ∧ (∀ a j, ¬ (a = 86 ∧ (j = 5 ∨ j = 9 ∨ j = 10) ∨ 89 ≤ a ∧ a ≤ 93) → S' a j = S a j) ∧ (∀ a j, ¬ (a = 152 ∨ a = 154 ∨ a = 155 ∨ a = 99 ∧ 100 ≤ j ∧ j ≤ 103) → T' a j = T a j) := by
  obtain ⟨⟨nc, hB⟩, hP, hT, hK, hO, h17, h25⟩ := id h
  obtain ⟨a1, a2, a3, a4, a5, a6, a7, a8, a9, a10, a12, a13, a14⟩ := id hB.1
  obtain ⟨W, w1, -, w3, w4⟩ := z_spr90 h6 12 0 S (by omega)
  obtain ⟨Y, y1, -, y3, y4⟩ := z_tks (X := X) 12 0 T (by omega)
  have ex := fun i (hi : i < z_cn X 12) => z_cn_ex 12 i hi
  generalize hn : z_cn X 12 = n at *
  have gS : g_spread90 (z_i X) S = W := by
    unfold g_spread90 F_spread90
    rw [show 12 - 0 = 12 from rfl]
    exact congrArg Prod.snd w1
  have fS : f_spread90 (z_i X) S = z_i n := by
    unfold f_spread90 F_spread90
    rw [show 12 - 0 = 12 from rfl]
    exact congrArg Prod.fst w1
  have gT : g_X12_takesSome (z_i X) T = Y := by
    unfold g_X12_takesSome F_X12_takesSome
    rw [show 12 - 0 = 12 from rfl]
    exact congrArg Prod.snd y1
  have fT : f_X12_takesSome (z_i X) T = z_i n := by
    unfold f_X12_takesSome F_X12_takesSome
    rw [show 12 - 0 = 12 from rfl]
    exact congrArg Prod.fst y1
  have en : (z_i n).toInt.toNat = n := z_iin (by omega)
  have who : ∀ i, i < n → ∃ g, g < 12 ∧ W 90 i = z_i g ∧ Y 152 i = z_i g ∧ ¬ T 116 g = 0 := fun i hi => by
    obtain ⟨g, g1, g2, g3⟩ := ex i hi
    refine ⟨g, g1, ?_, ?_, ht g g1 g2⟩
    · rw [← g3]
      exact w3 g (by omega) g1 g2
    · rw [← g3]
      exact y3 g (by omega) g1 g2
  -- what both read
  let p : Nat → Int := fun i => if i < n then (S 2 ((W 90 i).toInt.toNat)).toInt else 0
  let G : Nat → Int32 := fun i => S 6 ((W 90 i).toInt.toNat)
  let cg : Nat → Nat → Prop := fun i k => ¬ f_X11_isIn (S 86 0) (z_i k) = 0 ∧ ¬ S 3 ((W 90 i).toInt.toNat) = Int32.ofInt 8 ∧ z_adj (S 3 ((W 90 i).toInt.toNat)) (S 87 k)
  let lm : Nat → Int := fun k => if k < 4 ∧ ¬ T 156 k = 0 then (T 158 k).toInt else 0
  have hp : ∀ i, 0 ≤ p i ∧ p i ≤ 99 := fun i => by
    show 0 ≤ (if i < n then (S 2 ((W 90 i).toInt.toNat)).toInt else 0) ∧ (if i < n then (S 2 ((W 90 i).toInt.toNat)).toInt else 0) ≤ 99
    by_cases q : i < n
    · obtain ⟨g, g1, g2, -, -⟩ := who i q
      rw [if_pos q, g2, z_iin (by omega)]
      have := a2 g g1
      rw [← this.1] at this
      exact this.2
    · rw [if_neg q]
      decide
  have hlm : ∀ k, 0 ≤ lm k ∧ lm k ≤ 255 := fun k => by
    show 0 ≤ (if k < 4 ∧ ¬ T 156 k = 0 then (T 158 k).toInt else 0) ∧ (if k < 4 ∧ ¬ T 156 k = 0 then (T 158 k).toInt else 0) ≤ 255
    by_cases q : k < 4 ∧ ¬ T 156 k = 0
    · rw [if_pos q]
      exact (hO.2.2.1 k q.1).2
    · rw [if_neg q]
      decide
  have hpi : ∀ i, i < n → S 2 ((W 90 i).toInt.toNat) = Int32.ofInt (p i) := fun i hi => by
    show _ = Int32.ofInt (if i < n then (S 2 ((W 90 i).toInt.toNat)).toInt else 0)
    rw [if_pos hi, Int32.ofInt_toInt]
  have tld : ∀ i k, i < n → k < 4 → cg i k → ¬ T 156 k = 0 := fun i k hi hk m => by
    obtain ⟨g, g1, g2, g3, g4⟩ := who i hi
    have e := z_canGoE (S := S) (T := T) (g := g) hk hO (a3 g g1 g4) g1
    have m2 : ¬ f_X11_isIn (S 86 0) (z_i k) = 0 := m.1
    obtain ⟨⟨o0, o1⟩, -⟩ := hO
    obtain ⟨M, hM, hMe⟩ : ∃ M, M < 16 ∧ S 86 0 = z_i M := ⟨(S 86 0).toInt.toNat, by omega, (z_ofN o0.1).symm⟩
    rw [hMe] at m2
    have ho := o1 k hk
    rw [hMe, z_bitN (by omega)] at ho
    refine ho.mp ?_
    have hI := z_isInN (X := M) (g := k) (by omega)
    have : ¬ M.testBit k = false := fun z => m2 (hI.mpr z)
    simpa using this
  -- the class
  have hWr : ∀ i, i < n → (z_s (z_s W 86 5 (z_i n)) 91 n (Int32.ofInt 0)) 2 (((z_s (z_s W 86 5 (z_i n)) 91 n (Int32.ofInt 0)) 90 i).toInt.toNat) = Int32.ofInt (p i) := fun i hi => by
    rw [z_sn (by omega), z_sn (by omega), z_sn (by omega), z_sn (by omega), w4 2 _ (by omega)]
    exact hpi i hi
  obtain ⟨V, v1, v2, v3⟩ := z_sfl (n := n) (p := p) h6 (Sb := z_s (z_s W 86 5 (z_i n)) 91 n (Int32.ofInt 0)) hWr n (z_s (z_s W 86 5 (z_i n)) 91 n (Int32.ofInt 0)) (Nat.le_refl n) (fun i h1 h2 => by rw [show i = n by omega, z_ss, Nat.sub_self]; rfl) (fun a j _ => rfl)
  have hU : ∀ a j, ¬ (a = 86 ∧ (j = 5 ∨ j = 9 ∨ j = 10) ∨ 89 ≤ a ∧ a ≤ 91) → (z_s (z_s (g_fill89 (Int32.ofInt 0) V) 86 9 (Int32.ofInt (-1))) 86 10 (Int32.ofInt (-1))) a j = S a j := fun a j q => by
    rw [z_sn (by omega), z_sn (by omega), z_fill89, if_neg (by omega), v3 a j (by omega), z_sn (by omega), z_sn (by omega), w4 a j (by omega)]
  have u90 : ∀ j, (z_s (z_s (g_fill89 (Int32.ofInt 0) V) 86 9 (Int32.ofInt (-1))) 86 10 (Int32.ofInt (-1))) 90 j = W 90 j := fun j => by
    rw [z_sn (by omega), z_sn (by omega), z_fill89, if_neg (by omega), v3 90 j (by omega), z_sn (by omega), z_sn (by omega)]
  have u91 : ∀ i, i ≤ n → (z_s (z_s (g_fill89 (Int32.ofInt 0) V) 86 9 (Int32.ofInt (-1))) 86 10 (Int32.ofInt (-1))) 91 i = Int32.ofInt (z_sf p (n - i) i) := fun i hi => by
    rw [z_sn (by omega), z_sn (by omega), z_fill89, if_neg (by omega)]
    exact v2 i hi
  have u5 : (z_s (z_s (g_fill89 (Int32.ofInt 0) V) 86 9 (Int32.ofInt (-1))) 86 10 (Int32.ofInt (-1))) 86 5 = z_i n := by
    rw [z_sn (by omega), z_sn (by omega), z_fill89, if_neg (by omega), v3 86 5 (by omega), z_sn (by omega), z_ss]
  have u9 : (z_s (z_s (g_fill89 (Int32.ofInt 0) V) 86 9 (Int32.ofInt (-1))) 86 10 (Int32.ofInt (-1))) 86 9 = Int32.ofInt (-1) := by rw [z_sn (by omega), z_ss]
  have u10 : (z_s (z_s (g_fill89 (Int32.ofInt 0) V) 86 9 (Int32.ofInt (-1))) 86 10 (Int32.ofInt (-1))) 86 10 = Int32.ofInt (-1) := z_ss
  have u89 : ∀ k, k < 4 → (z_s (z_s (g_fill89 (Int32.ofInt 0) V) 86 9 (Int32.ofInt (-1))) 86 10 (Int32.ofInt (-1))) 89 k = Int32.ofInt 0 := fun k hk => by
    rw [z_sn (by omega), z_sn (by omega), z_fill89, if_pos ⟨rfl, hk⟩]
  have eS' : g_X10_sendOff (z_i X) S = g_send (Int32.ofInt 0) (Int32.ofInt 0) (Int32.ofInt 0) (z_s (z_s (g_fill89 (Int32.ofInt 0) V) 86 9 (Int32.ofInt (-1))) 86 10 (Int32.ofInt (-1))) := by
    unfold g_X10_sendOff F_X10_sendOff
    rw [fS, gS, en, show z_i n - Int32.ofInt 1 = Int32.ofInt ((n : Int) - 1) by unfold z_i; rw [z_ois], q_ofr (by omega) (by omega), show ((n : Int) - 1 + 1).toNat = n by omega]
    exact v1
  generalize (z_s (z_s (g_fill89 (Int32.ofInt 0) V) 86 9 (Int32.ofInt (-1))) 86 10 (Int32.ofInt (-1))) = U at *
  have hbC : z_Bse n p G cg lm U := by
    refine ⟨h6, u5, hp, hlm, u91, fun i hi => ⟨?_, ?_, fun k hk => ⟨?_, fun m => ?_⟩⟩⟩
    · rw [u90, hU 2 _ (by omega)]
      exact hpi i hi
    · rw [u90, hU 6 _ (by omega)]
    · rw [u90, hU 86 0 (by omega), hU 3 _ (by omega), hU 87 k (by omega)]
    · rw [hU 88 k (by omega)]
      show _ = Int32.ofInt (if k < 4 ∧ ¬ T 156 k = 0 then (T 158 k).toInt else 0)
      rw [if_pos ⟨hk, tld i k hi hk m⟩, Int32.ofInt_toInt]
      exact (hO.2.2.1 k hk).1
  have I0 : z_Ic n p 0 (fun _ => 4) (-1, -1, fun _ => 0) U U := by
    refine ⟨fun a j _ => rfl, fun j hj => absurd hj (Nat.not_lt_zero j), fun k hk => u89 k hk, u9, u10, fun m => ?_, ?_⟩
    · have m2 : (0 : Int) ≤ -1 := m
      omega
    · decide
  have v0 : z_vp p (fun l j => G l = G j) cg lm (fun _ => 4) 0 := z_vp4 (fun k => (hlm k).1) 0
  have IC := z_srch hbC n 0 7 (fun _ => 4) (-1, -1, fun _ => 0) U (by omega) (by omega) v0 I0
  -- the reference
  have hbM : z_BsM n p G cg lm Y := by
    refine ⟨h6, hp, hlm, fun i hi => ?_, fun k hk q => ?_⟩
    · obtain ⟨g, g1, g2, g3, g4⟩ := who i hi
      have eg : (z_i g).toInt.toNat = g := z_iin (by omega)
      have pe := hpi i hi
      rw [g2, eg] at pe
      refine ⟨?_, ?_, fun k hk => ⟨?_, fun m => ?_⟩⟩
      · rw [g3, eg, y4 117 g (by omega), ← pe]
        exact (a2 g g1).1.symm
      · rw [g3, eg, y4 121 g (by omega)]
        show _ = S 6 ((W 90 i).toInt.toNat)
        rw [g2, eg]
        exact (a6 g g1).1.symm
      · rw [g3, z_canGo_f (W := T) (fun a j q => y4 a j (by omega)), z_canGoE hk hO (a3 g g1 g4) g1]
        show (¬ f_X11_isIn (S 86 0) (z_i k) = 0 ∧ ¬ S 3 ((W 90 i).toInt.toNat) = Int32.ofInt 8 ∧ z_adj (S 3 ((W 90 i).toInt.toNat)) (S 87 k)) ↔ _
        rw [g2, eg]
      · rw [y4 156 k (by omega)]
        exact tld i k hi hk m
    · rw [y4 156 k (by omega)] at q
      rw [y4 158 k (by omega)]
      show _ = Int32.ofInt (if k < 4 ∧ ¬ T 156 k = 0 then (T 158 k).toInt else 0)
      rw [if_pos ⟨hk, q⟩, Int32.ofInt_toInt]
  have hpw : f_X12_powerOf (Int32.ofInt 5) (z_i n) = z_i (5 ^ n) := z_pw_all ⟨n, by omega⟩
  have h5n : 5 ^ n ≤ 5 ^ 6 := Nat.pow_le_pow_right (by decide) h6
  have JM := z_ll hbM (5 ^ n) 0 (-1, 0, fun _ => 0) (z_s (z_s Y 99 102 (Int32.ofInt (-1))) 99 103 (Int32.ofInt 0)) (by omega) ⟨fun a j m => by rw [z_sn (by omega), z_sn (by omega)], by rw [z_sn (by omega), z_ss], by rw [z_ss], fun m => absurd m (by decide), by decide⟩
  have eT' : g_X12_laysLeaving (z_i n) Y = r_X12_laysLeaving_12 (z_i n) (5 ^ n) 0 (z_s (z_s Y 99 102 (Int32.ofInt (-1))) 99 103 (Int32.ofInt 0)) := by
    unfold g_X12_laysLeaving F_X12_laysLeaving
    rw [hpw, z_iin (by omega), Nat.sub_zero]
  -- together
  have E := z_en_all (n := n) (p := p) (ga := fun l j => G l = G j) (cg := cg) (lm := lm) (fun _ => 4) (B := (-1, 0, fun _ => 0)) (C := (-1, -1, fun _ => 0)) ⟨rfl, fun m => absurd m (by decide)⟩
  have P0 := z_fd4 (n := n) (p := p) (ga := fun l j => G l = G j) (cg := cg) (lm := lm) (fun k => (hlm k).1) n 0 (fun _ => 4) (-1, -1, fun _ => 0) (by omega) (fun j _ => rfl)
  generalize z_fd n p (fun l j => G l = G j) cg lm n 0 (fun _ => 4) (-1, -1, fun _ => 0) = BC at *
  generalize z_enu n p (fun l j => G l = G j) cg lm (5 ^ n) 0 (-1, 0, fun _ => 0) = BM at *
  obtain ⟨E1, E2⟩ := E
  obtain ⟨E2, E3⟩ := E2 (by rw [E1]; exact P0)
  rw [← eT', ← gT] at JM
  refine ⟨_, _, eS', fT, rfl, ?_⟩
  obtain ⟨i1, -, -, i4, i5, i6, -⟩ := IC
  obtain ⟨j1, j2, j3, j4, -⟩ := JM
  have i1' : ∀ a j, ¬ (a = 86 ∧ (j = 9 ∨ j = 10) ∨ a = 89 ∨ a = 92 ∨ a = 93) → g_send (Int32.ofInt 0) (Int32.ofInt 0) (Int32.ofInt 0) U a j = U a j := i1
  have i4' : g_send (Int32.ofInt 0) (Int32.ofInt 0) (Int32.ofInt 0) U 86 9 = Int32.ofInt BC.1 := i4
  have i5' : g_send (Int32.ofInt 0) (Int32.ofInt 0) (Int32.ofInt 0) U 86 10 = Int32.ofInt BC.2.1 := i5
  have i6' : 0 ≤ BC.1 → ∀ j, j < n → g_send (Int32.ofInt 0) (Int32.ofInt 0) (Int32.ofInt 0) U 93 j = z_i (BC.2.2 j) := i6
  refine ⟨?_, ?_, fun j hj => ?_, fun j hj ht2 => ?_, fun a j q => ?_, fun a j q => ?_⟩
  · rw [i4', j2, E1]
  · rw [i5', j3, E2]
  · rw [i6' P0 j hj, j4 (by rw [E1]; exact P0) j hj, E3 j hj]
  · rw [j1 152 _ (by omega), gT]
    exact y3 j (by omega) hj ht2
  · rw [i1' a j (by omega), hU a j (by omega)]
  · rw [j1 a j (by omega), gT, y4 a j (by omega)]
