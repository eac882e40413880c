/-! the two readers side by side: what each small call does -/
noncomputable def z_hc (w : Nat → Int32) (p n : Nat) : Int32 := if p < n then w p else Int32.ofInt (-1)
noncomputable def z_hm (w : Nat → Int32) (p n : Nat) : Int32 := if p < n then w p else Int32.ofInt 0
noncomputable def z_by (w : Nat → Int32) : Prop := ∀ i, i < 260 → 0 ≤ (w i).toInt ∧ (w i).toInt ≤ 255
theorem z_oi {a b : Int} (ha : -2147483648 ≤ a ∧ a ≤ 2147483647) (hb : -2147483648 ≤ b ∧ b ≤ 2147483647) (h : a ≠ b) : ¬ Int32.ofInt a = Int32.ofInt b := fun e => h (by rw [← q_ofr ha.1 ha.2, ← q_ofr hb.1 hb.2, e])
theorem z_hcm {w : Nat → Int32} {p n : Nat} {c : Int} (hc : 0 < c ∧ c ≤ 255) : (z_hc w p n = Int32.ofInt c) ↔ (z_hm w p n = Int32.ofInt c) := by
  unfold z_hc z_hm
  by_cases h : p < n
  · rw [if_pos h, if_pos h]
  · rw [if_neg h, if_neg h]
    exact ⟨fun e => absurd e (z_oi (by omega) (by omega) (by omega)), fun e => absurd e (z_oi (by omega) (by omega) (by omega))⟩
theorem z_hlt {w : Nat → Int32} {p n : Nat} {c : Int} (hc : 0 ≤ c ∧ c ≤ 255) (h : z_hc w p n = Int32.ofInt c) : p < n := by
  unfold z_hc at h
  by_cases g : p < n
  · exact g
  · rw [if_neg g] at h
    exact absurd h (z_oi (by omega) (by omega) (by omega))
theorem z_hcl {w : Nat → Int32} {p n : Nat} (g : p < n) : z_hc w p n = w p := if_pos g
theorem z_hml {w : Nat → Int32} {p n : Nat} (g : p < n) : z_hm w p n = w p := if_pos g
noncomputable def z_pc (e : Nat) (w : Nat → Int32) (S : v_Sf) (p n k : Nat) : Prop := (∀ i, i < 260 → S 46 i = w i) ∧ z_i n ≤ S 45 1 ∧ S 66 4 = z_i p ∧ S 66 5 = z_i n ∧ S 66 6 = 0 ∧ S e 6 = z_i k ∧ p ≤ n ∧ n ≤ 240
noncomputable def z_pm (w : Nat → Int32) (T : v_Sf) (p n m q a : Nat) : Prop := (∀ i, i < 260 → T 100 i &&& Int32.ofInt 255 = w i) ∧ T 99 3 = z_i p ∧ T 99 4 = z_i n ∧ T 99 5 = 0 ∧ T 99 7 = z_i m ∧ T 99 8 = z_i a ∧ T 99 9 = z_i q ∧ T 99 25 = 0 ∧ m + q ≤ p ∧ p ≤ n ∧ n ≤ 240
noncomputable def z_fC (e k : Nat) (S S' : v_Sf) : Prop := ∀ a j, ¬ (a = 66 ∧ (j = 4 ∨ j = 5 ∨ j = 6)) → ¬ (a = e ∧ j = 6) → ¬ ((a = e + 1 ∨ a = e + 2) ∧ k ≤ j) → S' a j = S a j
noncomputable def z_fM (m q : Nat) (T T' : v_Sf) : Prop := ∀ a j, ¬ (a = 99 ∧ (j = 3 ∨ j = 5 ∨ j = 7 ∨ j = 8 ∨ j = 9 ∨ j = 25)) → ¬ ((a = 111 ∨ a = 112) ∧ m ≤ j) → ¬ (a = 113 ∧ q ≤ j) → T' a j = T a j
theorem z_fC_r (e k : Nat) (S : v_Sf) : z_fC e k S S := fun _ _ _ _ _ => rfl
theorem z_fM_r (m q : Nat) (T : v_Sf) : z_fM m q T T := fun _ _ _ _ _ => rfl
theorem z_fC_t {e k k' : Nat} {S S' S'' : v_Sf} (h1 : z_fC e k S S') (h2 : z_fC e k' S' S'') (hk : k ≤ k') : z_fC e k S S'' := fun a j q1 q2 q3 => (h2 a j q1 q2 (by omega)).trans (h1 a j q1 q2 q3)
theorem z_fM_t {m m' q q' : Nat} {T T' T'' : v_Sf} (h1 : z_fM m q T T') (h2 : z_fM m' q' T' T'') (hm : m ≤ m') (hq : q ≤ q') : z_fM m q T T'' := fun a j q1 q2 q3 => (h2 a j q1 (by omega) (by omega)).trans (h1 a j q1 q2 q3)
theorem z_pc_here {e : Nat} {w : Nat → Int32} {S : v_Sf} {p n k : Nat} (h : z_pc e w S p n k) : f_X5_here S = z_hc w p n := by
  obtain ⟨h1, h2, h3, h4, h5, h6, h7, h8⟩ := h
  unfold f_X5_here f_X8_at z_hc
  rw [h3, h4]
  by_cases g : p < n
  · have g1 : ¬ z_i n ≤ z_i p := by
      rw [z_ile (by omega) (by omega)]
      omega
    have g2 : ¬ z_i p < 0 := by
      rw [show (0 : Int32) = z_i 0 from rfl, z_ilt (by omega) (by omega)]
      omega
    have g3 : ¬ S 45 1 ≤ z_i p := by
      have a1 := Int32.le_iff_toInt_le.mp h2
      rw [z_it3 (by omega)] at a1
      rw [Int32.le_iff_toInt_le, z_it3 (by omega)]
      omega
    rw [if_neg g1, if_neg g2, if_neg g3, if_pos g, z_iin (by omega)]
    exact h1 p (by omega)
  · rw [if_pos (by rw [z_ile (by omega) (by omega)]; omega), if_neg g]
theorem z_pm_here {w : Nat → Int32} {T : v_Sf} {p n m q a : Nat} (h : z_pm w T p n m q a) : f_X12_here T = z_hm w p n := by
  obtain ⟨h1, h2, h3, h4, h5, h6, h7, h8, h9, h10, h11⟩ := h
  unfold f_X12_here z_hm
  rw [h2, h3]
  by_cases g : p < n
  · have g1 : ¬ z_i n ≤ z_i p := by
      rw [z_ile (by omega) (by omega)]
      omega
    rw [if_neg g1, if_pos g, z_iin (by omega)]
    exact h1 p (by omega)
  · rw [if_pos (by rw [z_ile (by omega) (by omega)]; omega), if_neg g]
theorem z_top0 {T : v_Sf} (h : T 99 9 = z_i 0) : f_X12_top T = Int32.ofInt 0 := by
  unfold f_X12_top
  rw [h, if_pos (by decide)]
theorem z_top1 {T : v_Sf} {q : Nat} (h : T 99 9 = z_i (q + 1)) (hq : q < 1000) : f_X12_top T = T 113 q := by
  unfold f_X12_top
  rw [h, if_neg (by rw [show (0 : Int32) = z_i 0 from rfl, z_ile (by omega) (by omega)]; omega), z_isub, z_iin (by omega)]
theorem z_good {T : v_Sf} (h : T 99 5 = 0) : f_X12_isGood T = Int32.ofInt 1 := by
  unfold f_X12_isGood
  rw [if_neg (not_not_intro h)]
theorem z_good1 {T : v_Sf} (h : T 99 5 = 0) : ¬ f_X12_isGood T = 0 := by
  rw [z_good h]
  decide
theorem z_bad {T : v_Sf} (h : ¬ T 99 5 = 0) : f_X12_isGood T = 0 := by
  unfold f_X12_isGood
  rw [if_pos h]
  rfl
noncomputable def z_phi (c : Int) (p : Nat) : Int32 := Int32.ofInt (-1000) * Int32.ofInt c - z_i p
theorem z_phi_v {c : Int} {p : Nat} (hc : 1 ≤ c ∧ c ≤ 6) (hp : p ≤ 300) : z_phi c p = Int32.ofInt (-1000 * c - p) := by
  unfold z_phi z_i
  rw [← Int32.ofInt_mul, ← Int32.ofInt_sub]
theorem z_phi_n {c : Int} {p : Nat} (hc : 1 ≤ c ∧ c ≤ 6) (hp : p ≤ 300) : z_phi c p < 0 := by
  rw [z_phi_v hc hp, Int32.lt_iff_toInt_lt, q_ofr (by omega) (by omega)]
  have e0 : (0 : Int32).toInt = 0 := rfl
  omega
theorem z_phi0 {c : Int} {p : Nat} (hc : 1 ≤ c ∧ c ≤ 6) (hp : p ≤ 300) : ¬ z_phi c p = 0 := by
  have h := z_phi_n hc hp
  intro e
  rw [e] at h
  exact absurd h (by decide)
theorem z_ng {v : Int32} (h : v < 0) : ¬ v = 0 := fun e => absurd (e ▸ h : (0 : Int32) < 0) (by decide)
section RDP
variable {e : Nat} {w : Nat → Int32} {S T : v_Sf} {p n k m q a : Nat}
theorem z_cdn (he : z_cd e) : e ≠ 66 ∧ e + 1 ≠ 66 ∧ e + 2 ≠ 66 ∧ 46 < e ∧ e ≤ 67 ∧ e + 4 ≠ 66 ∧ e + 5 ≠ 66 ∧ e + 6 ≠ 66 := by
  rcases he with rfl | rfl | rfl <;> decide
theorem z_c_adv (he : z_cd e) (h : z_pc e w S p n k) (hp : p < n) : z_pc e w (z_s S 66 4 (S 66 4 + Int32.ofInt 1)) (p + 1) n k ∧ z_fC e k S (z_s S 66 4 (S 66 4 + Int32.ofInt 1)) := by
  have hn := z_cdn he
  obtain ⟨h1, h2, h3, h4, h5, h6, h7, h8⟩ := h
  refine ⟨⟨fun i hi => ?_, ?_, ?_, ?_, ?_, ?_, by omega, h8⟩, fun a j q1 q2 q3 => z_sn (by omega)⟩
  · rw [z_sn (by omega)]
    exact h1 i hi
  · rw [z_sn (by omega)]
    exact h2
  · rw [z_ss, h3, z_i1]
  · rw [z_sn (by omega)]
    exact h4
  · rw [z_sn (by omega)]
    exact h5
  · rw [z_sn (by omega)]
    exact h6
theorem z_c_put (he : z_cd e) (h : z_pc e w S p n k) (hk : k < 256) (c v : Int32) : z_pc e w (g_X1_put e c v S) p n (k + 1) ∧ z_fC e k S (g_X1_put e c v S) ∧ g_X1_put e c v S (e + 1) k = c ∧ g_X1_put e c v S (e + 2) k = v ∧ f_X1_put e c v S = z_i k := by
  have hn := z_cdn he
  obtain ⟨h1, h2, h3, h4, h5, h6, h7, h8⟩ := h
  have g : S e 6 < Int32.ofNat 256 := by
    rw [h6, show Int32.ofNat 256 = z_i 256 by decide, z_ilt (by omega) (by omega)]
    exact hk
  have ek : (S e 6).toInt.toNat = k := by rw [h6, z_iin (by omega)]
  have E : g_X1_put e c v S = z_s (z_s (z_s S (e + 1) k c) (e + 2) k v) e 6 (z_i (k + 1)) := by
    unfold g_X1_put
    rw [if_pos g, ek, h6, z_i1]
  have E2 : f_X1_put e c v S = z_i k := by
    unfold f_X1_put
    rw [if_pos g, h6, z_i1, z_isub]
  rw [E]
  refine ⟨⟨fun i hi => ?_, ?_, ?_, ?_, ?_, ?_, h7, h8⟩, fun a j q1 q2 q3 => ?_, ?_, ?_, E2⟩
  · rw [z_sn (by omega), z_sn (by omega), z_sn (by omega)]
    exact h1 i hi
  · rw [z_sn (by omega), z_sn (by omega), z_sn (by omega)]
    exact h2
  · rw [z_sn (by omega), z_sn (by omega), z_sn (by omega)]
    exact h3
  · rw [z_sn (by omega), z_sn (by omega), z_sn (by omega)]
    exact h4
  · rw [z_sn (by omega), z_sn (by omega), z_sn (by omega)]
    exact h5
  · rw [z_ss]
  · rw [z_sn (by omega), z_sn (by omega), z_sn (by omega)]
  · rw [z_sn (by omega), z_sn (by omega), z_ss]
  · rw [z_sn (by omega), z_ss]
theorem z_c_land (he : z_cd e) (h : z_pc e w S p n k) (hk : k ≤ 256) {j : Nat} (hj : j < k) : z_pc e w (g_X1_land e (z_i j) S) p n k ∧ g_X1_land e (z_i j) S = z_s S (e + 2) j (z_i k) := by
  have hn := z_cdn he
  obtain ⟨h1, h2, h3, h4, h5, h6, h7, h8⟩ := h
  have E : g_X1_land e (z_i j) S = z_s S (e + 2) j (z_i k) := by
    unfold g_X1_land
    rw [if_neg (by rw [show (0 : Int32) = z_i 0 from rfl, z_ilt (by omega) (by omega)]; omega), h6, if_neg (by rw [z_ile (by omega) (by omega)]; omega), z_iin (by omega)]
  refine ⟨?_, E⟩
  rw [E]
  refine ⟨fun i hi => ?_, ?_, ?_, ?_, ?_, ?_, h7, h8⟩
  · rw [z_sn (by omega)]
    exact h1 i hi
  · rw [z_sn (by omega)]
    exact h2
  · rw [z_sn (by omega)]
    exact h3
  · rw [z_sn (by omega)]
    exact h4
  · rw [z_sn (by omega)]
    exact h5
  · rw [z_sn (by omega)]
    exact h6
theorem z_c_fail (h : z_pc e w S p n k) (c : Int) : g_X5_fail (Int32.ofInt c) (S 66 4) S 66 6 = z_phi c p := by
  obtain ⟨h1, h2, h3, h4, h5, h6, h7, h8⟩ := h
  unfold g_X5_fail z_phi
  rw [if_neg (not_not_intro h5), z_sn (by omega), z_ss, h3]
theorem z_m_wrong (h : z_pm w T p n m q a) (c : Int) : g_X12_wrongs (Int32.ofInt c) (T 99 3) T = z_s T 99 5 (z_phi c p) := by
  obtain ⟨h1, h2, h3, h4, h5, h6, h7, h8, h9, h10, h11⟩ := h
  unfold g_X12_wrongs z_phi
  rw [if_pos (by rw [h4]; decide), h2]
theorem z_m_puts (h : z_pm w T p n m q a) (hp : p < n) (c : Int32) : z_pm w (g_X12_puts c T) (p + 1) n m (q + 1) a ∧ z_fM m q T (g_X12_puts c T) ∧ g_X12_puts c T 113 q = c := by
  obtain ⟨h1, h2, h3, h4, h5, h6, h7, h8, h9, h10, h11⟩ := h
  have E : g_X12_puts c T = z_s (z_s (z_s T 113 q c) 99 9 (z_i (q + 1))) 99 3 (z_i (p + 1)) := by
    unfold g_X12_puts
    rw [h7, h2, z_i1, z_i1, z_iin (by omega)]
  rw [E]
  refine ⟨⟨fun i hi => ?_, ?_, ?_, ?_, ?_, ?_, ?_, ?_, by omega, by omega, h11⟩, fun a j q1 q2 q3 => ?_, ?_⟩
  · rw [z_sn (by omega), z_sn (by omega), z_sn (by omega)]
    exact h1 i hi
  · rw [z_ss]
  · rw [z_sn (by omega), z_sn (by omega), z_sn (by omega)]
    exact h3
  · rw [z_sn (by omega), z_sn (by omega), z_sn (by omega)]
    exact h4
  · rw [z_sn (by omega), z_sn (by omega), z_sn (by omega)]
    exact h5
  · rw [z_sn (by omega), z_sn (by omega), z_sn (by omega)]
    exact h6
  · rw [z_sn (by omega), z_ss]
  · rw [z_sn (by omega), z_sn (by omega), z_sn (by omega)]
    exact h8
  · rw [z_sn (by omega), z_sn (by omega), z_sn (by omega)]
  · rw [z_sn (by omega), z_sn (by omega), z_ss]
theorem z_m_opens (h : z_pm w T p n m q a) (hp : p < n) (ha : a < 6) : z_pm w (g_X12_opens T) (p + 1) n m (q + 1) (a + 1) ∧ z_fM m q T (g_X12_opens T) ∧ g_X12_opens T 113 q = w p := by
  have hh := h
  obtain ⟨h1, h2, h3, h4, h5, h6, h7, h8, h9, h10, h11⟩ := h
  have a6 : ¬ T 99 8 = Int32.ofInt 6 := by
    rw [h6, show Int32.ofInt 6 = z_i 6 from rfl]
    intro e
    have := congrArg Int32.toInt e
    rw [z_it3 (by omega), z_it3 (by omega)] at this
    omega
  have b : z_pm w (z_s T 99 8 (z_i (a + 1))) p n m q (a + 1) := by
    refine ⟨fun i hi => ?_, ?_, ?_, ?_, ?_, ?_, ?_, ?_, h9, h10, h11⟩
    · rw [z_sn (by omega)]
      exact h1 i hi
    · rw [z_sn (by omega)]
      exact h2
    · rw [z_sn (by omega)]
      exact h3
    · rw [z_sn (by omega)]
      exact h4
    · rw [z_sn (by omega)]
      exact h5
    · rw [z_ss]
    · rw [z_sn (by omega)]
      exact h7
    · rw [z_sn (by omega)]
      exact h8
  have E : g_X12_opens T = g_X12_puts (w p) (z_s T 99 8 (z_i (a + 1))) := by
    unfold g_X12_opens
    rw [if_pos a6, h6, z_i1, z_pm_here b, z_hml hp]
  rw [E]
  have c := z_m_puts b hp (w p)
  exact ⟨c.1, fun a j q1 q2 q3 => (c.2.1 a j q1 q2 q3).trans (z_sn (by omega)), c.2.2⟩
theorem z_m_opens6 (h : z_pm w T p n m q 6) : g_X12_opens T 99 5 = z_phi 5 p := by
  have hh := h
  obtain ⟨h1, h2, h3, h4, h5, h6, h7, h8, h9, h10, h11⟩ := h
  unfold g_X12_opens
  rw [if_neg (not_not_intro (show T 99 8 = Int32.ofInt 6 from h6)), z_m_wrong hh]
  unfold g_X12_puts
  rw [z_sn (by omega), z_sn (by omega), z_sn (by omega), z_sn (by omega), z_ss]
theorem z_m_emit (h : z_pm w T p n m q a) (hm : m + q < p) (c v : Int32) : z_pm w (g_X12_emit c v T) p n (m + 1) q a ∧ z_fM m q T (g_X12_emit c v T) ∧ g_X12_emit c v T 111 m = c ∧ g_X12_emit c v T 112 m = v := by
  obtain ⟨h1, h2, h3, h4, h5, h6, h7, h8, h9, h10, h11⟩ := h
  have E : g_X12_emit c v T = z_s (z_s (z_s T 111 m c) 112 m v) 99 7 (z_i (m + 1)) := by
    unfold g_X12_emit
    rw [if_pos (z_good1 h4), h5, z_i1, z_iin (by omega)]
  rw [E]
  refine ⟨⟨fun i hi => ?_, ?_, ?_, ?_, ?_, ?_, ?_, ?_, by omega, h10, h11⟩, fun a j q1 q2 q3 => ?_, ?_, ?_⟩
  · rw [z_sn (by omega), z_sn (by omega), z_sn (by omega)]
    exact h1 i hi
  · rw [z_sn (by omega), z_sn (by omega), z_sn (by omega)]
    exact h2
  · rw [z_sn (by omega), z_sn (by omega), z_sn (by omega)]
    exact h3
  · rw [z_sn (by omega), z_sn (by omega), z_sn (by omega)]
    exact h4
  · rw [z_ss]
  · rw [z_sn (by omega), z_sn (by omega), z_sn (by omega)]
    exact h6
  · rw [z_sn (by omega), z_sn (by omega), z_sn (by omega)]
    exact h7
  · rw [z_sn (by omega), z_sn (by omega), z_sn (by omega)]
    exact h8
  · rw [z_sn (by omega), z_sn (by omega), z_sn (by omega)]
  · rw [z_sn (by omega), z_sn (by omega), z_ss]
  · rw [z_sn (by omega), z_ss]
end RDP
noncomputable def z_popE (T : v_Sf) : v_Sf := z_s (g_X12_emit (f_X12_top T) (Int32.ofInt 0) T) 99 9 (g_X12_emit (f_X12_top T) (Int32.ofInt 0) T 99 9 - Int32.ofInt 1)
section RDP2
variable {e : Nat} {w : Nat → Int32} {S T : v_Sf} {p n k m q a : Nat}
theorem z_m_emit2 (h : z_pm w T p n m (q + 1) a) (c v : Int32) : g_X12_emit c v T = z_s (z_s (z_s T 111 m c) 112 m v) 99 7 (z_i (m + 1)) := by
  obtain ⟨h1, h2, h3, h4, h5, h6, h7, h8, h9, h10, h11⟩ := h
  unfold g_X12_emit
  rw [if_pos (z_good1 h4), h5, z_i1, z_iin (by omega)]
theorem z_m_pop (h : z_pm w T p n m (q + 1) a) : z_pm w (z_popE T) p n (m + 1) q a ∧ z_fM m q T (z_popE T) ∧ z_popE T 111 m = T 113 q ∧ z_popE T 112 m = Int32.ofInt 0 := by
  have e := z_m_emit2 h (f_X12_top T) (Int32.ofInt 0)
  obtain ⟨h1, h2, h3, h4, h5, h6, h7, h8, h9, h10, h11⟩ := h
  have et : f_X12_top T = T 113 q := z_top1 h7 (by omega)
  have E : z_popE T = z_s (z_s (z_s (z_s T 111 m (T 113 q)) 112 m (Int32.ofInt 0)) 99 7 (z_i (m + 1))) 99 9 (z_i q) := by
    unfold z_popE
    rw [e, et, z_sn (a := 99) (i := 7) (by omega), z_sn (by omega), z_sn (by omega), h7, z_isub]
  rw [E]
  refine ⟨⟨fun i hi => ?_, ?_, ?_, ?_, ?_, ?_, ?_, ?_, by omega, h10, h11⟩, fun a j q1 q2 q3 => ?_, ?_, ?_⟩
  · rw [z_sn (by omega), z_sn (by omega), z_sn (by omega), z_sn (by omega)]
    exact h1 i hi
  · rw [z_sn (by omega), z_sn (by omega), z_sn (by omega), z_sn (by omega)]
    exact h2
  · rw [z_sn (by omega), z_sn (by omega), z_sn (by omega), z_sn (by omega)]
    exact h3
  · rw [z_sn (by omega), z_sn (by omega), z_sn (by omega), z_sn (by omega)]
    exact h4
  · rw [z_sn (by omega), z_ss]
  · rw [z_sn (by omega), z_sn (by omega), z_sn (by omega), z_sn (by omega)]
    exact h6
  · rw [z_ss]
  · rw [z_sn (by omega), z_sn (by omega), z_sn (by omega), z_sn (by omega)]
    exact h8
  · rw [z_sn (by omega), z_sn (by omega), z_sn (by omega), z_sn (by omega)]
  · rw [z_sn (by omega), z_sn (by omega), z_sn (by omega), z_ss]
  · rw [z_sn (by omega), z_sn (by omega), z_ss]
end RDP2
/-! signs -/
noncomputable def z_tms (c : Int32) : Prop := c = Int32.ofInt 42 ∨ c = Int32.ofInt 47 ∨ c = Int32.ofInt 37
noncomputable def z_pls (c : Int32) : Prop := c = Int32.ofInt 43 ∨ c = Int32.ofInt 45
noncomputable def z_cmp (c : Int32) : Prop := c = Int32.ofInt 60 ∨ c = Int32.ofInt 62 ∨ c = Int32.ofInt 61
theorem z_tmsT {c : Int32} (h : z_tms c) : f_X12_isTimes c = Int32.ofInt 1 := by rcases h with rfl | rfl | rfl <;> decide
theorem z_tmsF {c : Int32} (h : ¬ z_tms c) : f_X12_isTimes c = 0 := by
  unfold f_X12_isTimes
  rw [if_neg (fun q => h (Or.inl q)), if_neg (fun q => h (Or.inr (Or.inl q))), if_pos (fun q => h (Or.inr (Or.inr q)))]
  rfl
theorem z_plsT {c : Int32} (h : z_pls c) : f_X12_isPlus c = Int32.ofInt 1 := by rcases h with rfl | rfl <;> decide
theorem z_plsF {c : Int32} (h : ¬ z_pls c) : f_X12_isPlus c = 0 := by
  unfold f_X12_isPlus
  rw [if_neg (fun q => h (Or.inl q)), if_pos (fun q => h (Or.inr q))]
  rfl
theorem z_cmpT {c : Int32} (h : z_cmp c) : f_X12_isCompared c = Int32.ofInt 1 := by rcases h with rfl | rfl | rfl <;> decide
theorem z_cmpF {c : Int32} (h : ¬ z_cmp c) : f_X12_isCompared c = 0 := by
  unfold f_X12_isCompared
  rw [if_neg (fun q => h (Or.inl q)), if_neg (fun q => h (Or.inr (Or.inl q))), if_pos (fun q => h (Or.inr (Or.inr q)))]
  rfl
theorem z_tp {c : Int32} (h : z_tms c) : ¬ z_pls c := by rcases h with rfl | rfl | rfl <;> (unfold z_pls; decide)
theorem z_h_tms {w : Nat → Int32} {p n : Nat} : z_tms (z_hc w p n) ↔ z_tms (z_hm w p n) := by
  unfold z_tms
  rw [z_hcm (by decide), z_hcm (by decide), z_hcm (by decide)]
theorem z_h_pls {w : Nat → Int32} {p n : Nat} : z_pls (z_hc w p n) ↔ z_pls (z_hm w p n) := by
  unfold z_pls
  rw [z_hcm (by decide), z_hcm (by decide)]
theorem z_h_cmp {w : Nat → Int32} {p n : Nat} : z_cmp (z_hc w p n) ↔ z_cmp (z_hm w p n) := by
  unfold z_cmp
  rw [z_hcm (by decide), z_hcm (by decide), z_hcm (by decide)]
theorem z_tms_lt {w : Nat → Int32} {p n : Nat} (h : z_tms (z_hc w p n)) : p < n := by
  rcases h with h | h | h <;> exact z_hlt (by decide) h
theorem z_pls_lt {w : Nat → Int32} {p n : Nat} (h : z_pls (z_hc w p n)) : p < n := by
  rcases h with h | h <;> exact z_hlt (by decide) h
theorem z_cmp_lt {w : Nat → Int32} {p n : Nat} (h : z_cmp (z_hc w p n)) : p < n := by
  rcases h with h | h | h <;> exact z_hlt (by decide) h
/-! the reference's loops over the stack -/
theorem z_sums_s1 {x : Int32} {T : v_Sf} (h : z_tms (f_X12_top T) ∨ ¬ x = 0 ∧ z_pls (f_X12_top T)) : s_X12_sums_0 x T = Sum.inl (z_popE T) := by
  unfold s_X12_sums_0 z_popE
  by_cases g : z_tms (f_X12_top T)
  · rw [if_pos (by rw [z_tmsT g]; decide)]
  · have g2 := h.resolve_left g
    rw [if_neg (by rw [z_tmsF g]; decide), if_neg g2.1, if_neg (by rw [z_plsT g2.2]; decide)]
theorem z_sums_s0 {x : Int32} {T : v_Sf} (h : ¬ (z_tms (f_X12_top T) ∨ ¬ x = 0 ∧ z_pls (f_X12_top T))) : s_X12_sums_0 x T = Sum.inr T := by
  unfold s_X12_sums_0
  rw [if_neg (by rw [z_tmsF (fun q => h (Or.inl q))]; decide)]
  by_cases g : x = 0
  · rw [if_pos g]
  · rw [if_neg g, if_pos (z_plsF (fun q => h (Or.inr ⟨g, q⟩)))]
theorem z_sums_0 {x : Int32} {T : v_Sf} (h : ¬ (z_tms (f_X12_top T) ∨ ¬ x = 0 ∧ z_pls (f_X12_top T))) : g_X12_sums x T = T := by
  unfold g_X12_sums F_X12_sums
  exact z_lim_eq (n := 1) (z_itr_r (z_sums_s0 h))
theorem z_sums_e {w : Nat → Int32} {n p a : Nat} (x : Int32) : ∀ (q m : Nat) (T : v_Sf), z_pm w T p n m q a → ∃ N U, z_itr (fun p => s_X12_sums_0 x p) N T = some U := by
  intro q
  induction q with
  | zero =>
    intro m T h
    refine ⟨1, T, z_itr_r (z_sums_s0 ?_)⟩
    rw [z_top0 h.2.2.2.2.2.2.1]
    exact fun q => q.elim (by unfold z_tms; decide) (fun q => absurd q.2 (by unfold z_pls; decide))
  | succ q ih =>
    intro m T h
    by_cases g : z_tms (f_X12_top T) ∨ ¬ x = 0 ∧ z_pls (f_X12_top T)
    · obtain ⟨N, U, hU⟩ := ih (m + 1) _ (z_m_pop h).1
      exact ⟨N + 1, U, (z_itr_l (s := fun p => s_X12_sums_0 x p) (z_sums_s1 g)).trans hU⟩
    · exact ⟨1, T, z_itr_r (z_sums_s0 g)⟩
theorem z_sums_1 {w : Nat → Int32} {n p a q m : Nat} {x : Int32} {T : v_Sf} (h : z_pm w T p n m (q + 1) a) (g : z_tms (f_X12_top T) ∨ ¬ x = 0 ∧ z_pls (f_X12_top T)) : g_X12_sums x T = g_X12_sums x (z_popE T) := by
  obtain ⟨N, U, hU⟩ := z_sums_e x q (m + 1) _ (z_m_pop h).1
  have h2 : z_itr (fun p => s_X12_sums_0 x p) (N + 1) T = some U := (z_itr_l (s := fun p => s_X12_sums_0 x p) (z_sums_s1 g)).trans hU
  unfold g_X12_sums F_X12_sums
  rw [z_lim_eq h2, z_lim_eq hU]
