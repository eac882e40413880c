/-! keep, undo -/
theorem z_co_c {n : Nat} {A B A' B' : Nat → Int32} {lo hi : Int} (h : z_co n A B lo hi) (f : ∀ j, j < n → A' j = A j) (g : ∀ j, j < n → B' j = B j) : z_co n A' B' lo hi := by
  intro j hj
  rw [f j hj, g j hj]
  exact h j hj
theorem z_told_c {n : Nat} {m : Int} {b b' : Int32} {I I' : Nat → Int32} (h : z_told n m b I) (f : b' = b) (g : ∀ j, j < n → I' j = I j) : z_told n m b' I' := by
  rw [f]
  refine ⟨h.1, fun j hj => ?_⟩
  rw [g j hj]
  exact h.2 j hj
noncomputable def z_B01 (T : v_Sf) : Prop := (∀ j, j < 12 → T 116 j = 0 ∨ T 116 j = Int32.ofInt 1) ∧ (∀ j, j < 5 → T 129 j = 0 ∨ T 129 j = Int32.ofInt 1) ∧ (∀ j, j < 24 → T 137 j = 0 ∨ T 137 j = Int32.ofInt 1) ∧ (∀ j, j < 10 → T 144 j = 0 ∨ T 144 j = Int32.ofInt 1)
theorem z_nar01 {v : Int32} (h : v = 0 ∨ v = Int32.ofInt 1) : u_nar 2 v = v := by
  rcases h with rfl | rfl
  · decide
  · decide
theorem z_ors0 (x : Int32) : x ||| Int32.ofInt 0 = x := by
  rw [show Int32.ofInt 0 = 0 by decide]
  exact Int32.or_zero
theorem z_one32 : ∀ g : Fin 12, ∀ k : Fin 32, (Int32.ofInt 1 <<< (z_i g.val &&& 31)).toBitVec.getLsbD k.val = decide (k.val = g.val) := by decide +kernel
/-- told things as bits -/
theorem z_bits_ok {n : Nat} (hn : n ≤ 12) {b : Int32} {I : Nat → Int32} (h : z_told n (2 ^ n - 1 : Nat) b I) (F : Nat → Nat → Int32 → Int32) (F0 : ∀ k x, F 0 k x = x) (F1 : ∀ r k x, k < n → F (r + 1) k x = if I k = 0 then F r (k + 1) (x ||| Int32.ofInt 0) else F r (k + 1) (x ||| (Int32.ofInt 1 <<< (z_i k &&& 31)))) : F n 0 (Int32.ofInt 0) = b := by
  have lp : ∀ (r k : Nat) (x : Int32), r + k = n → (∀ i, i < 32 → x.toBitVec.getLsbD i = decide (i < k ∧ ¬ I i = 0)) → F r k x = b := by
    intro r
    induction r with
    | zero =>
      intro k x hk hx
      obtain rfl : k = n := by omega
      rw [F0]
      refine Int32.toBitVec_inj.mp (BitVec.eq_of_getLsbD_eq fun i hi => ?_)
      rw [hx i hi]
      obtain ⟨⟨h1, h2⟩, h3⟩ := h
      have hb := z_toN h1
      have hp : 1 ≤ 2 ^ k := Nat.one_le_two_pow
      by_cases q : i < k
      · have e := h3 i q
        rw [z_bitL _ (by omega)] at e
        by_cases q2 : I i = 0
        · have n1 : ¬ b.toBitVec.getLsbD i = true := fun m => e.mp m q2
          rw [decide_eq_false (by simp [q2]), Bool.not_eq_true _ |>.mp n1]
        · rw [e.mpr q2, decide_eq_true ⟨q, q2⟩]
      · rw [decide_eq_false (fun m => q m.1)]
        symm
        rw [BitVec.getLsbD, Nat.testBit_lt_two_pow]
        have : 2 ^ k ≤ 2 ^ i := Nat.pow_le_pow_right (by decide) (by omega)
        omega
    | succ r ih =>
      intro k x hk hx
      rw [F1 r k x (by omega)]
      by_cases q : I k = 0
      · rw [if_pos q, z_ors0]
        refine ih (k + 1) x (by omega) (fun i hi => ?_)
        rw [hx i hi]
        by_cases e : i = k
        · rw [e, decide_eq_false (by omega), decide_eq_false (fun m => m.2 q)]
        · exact decide_eq_decide.mpr ⟨fun m => ⟨by omega, m.2⟩, fun m => ⟨by omega, m.2⟩⟩
      · rw [if_neg q]
        refine ih (k + 1) _ (by omega) (fun i hi => ?_)
        rw [Int32.toBitVec_or, BitVec.getLsbD_or, hx i hi]
        have o1 : (Int32.ofInt 1 <<< (z_i k &&& 31)).toBitVec.getLsbD i = decide (i = k) := z_one32 ⟨k, by omega⟩ ⟨i, hi⟩
        rw [o1]
        by_cases e : i = k
        · rw [e, decide_eq_true rfl, Bool.or_true, decide_eq_true ⟨by omega, q⟩]
        · rw [decide_eq_false e, Bool.or_false]
          exact decide_eq_decide.mpr ⟨fun m => ⟨by omega, m.2⟩, fun m => ⟨by omega, m.2⟩⟩
  exact lp n 0 _ (by omega) (fun i hi => by
    rw [decide_eq_false (fun m => Nat.not_lt_zero _ m.1), show (Int32.ofInt 0).toBitVec = 0#32 from rfl]
    simp)
theorem z_toldG {b : Int32} {T : v_Sf} (h : z_told 12 4095 b (T 116)) : f_X12_toldGusts T = b := by
  unfold f_X12_toldGusts F_X12_toldGusts
  rw [show 12 - 0 = 12 from rfl]
  refine z_bits_ok (n := 12) (by decide) h (r_X12_toldGusts_4 T) (fun k x => by rw [r_X12_toldGusts_4]) (fun r k x hk => ?_)
  rw [r_X12_toldGusts_4, z_iin (by omega)]
set_option maxRecDepth 100000 in
theorem z_np_l : (List.range 4096).all (fun X => Nat.beq (v_popN 32 X) (v_popN 12 X)) = true := by decide +kernel
theorem z_np_all : ∀ i : Fin 4096, v_popN 32 i.val = v_popN 12 i.val := fun X => Nat.eq_of_beq_eq_true (List.all_eq_true.mp z_np_l X.val (List.mem_range.mpr X.isLt))
theorem z_bc12_all : ∀ i : Fin 4096, f_J6_bitCount_0f7a4 (z_i i.val) = v_pop (z_i i.val) := fun i => by
  have e : (z_i i.val).toUInt32.toNat = i.val := by
    show (z_i i.val).toBitVec.toNat = i.val
    have b : (z_i i.val).toBitVec = BitVec.ofNat 32 i.val := BitVec.ofInt_natCast 32 i.val
    rw [b, BitVec.toNat_ofNat]
    exact Nat.mod_eq_of_lt (by have := i.isLt; omega)
  unfold v_pop
  rw [e, z_np_all i]
  exact z_bcb_all i
theorem z_bc12 {x : Int32} (h : 0 ≤ x.toInt ∧ x.toInt ≤ 4095) : f_J6_bitCount_0f7a4 x = v_pop x := by
  have e := z_ofN h.1
  have h2 : f_J6_bitCount_0f7a4 (z_i x.toInt.toNat) = v_pop (z_i x.toInt.toNat) := z_bc12_all ⟨x.toInt.toNat, by omega⟩
  rw [e] at h2
  exact h2
theorem z_keep_ok {c b : Nat} (hc : z_cd c) (hb : z_cd b) {S T : v_Sf} (h : z_Rel c b S T) (h01 : z_B01 T) : f_X11_keep S = f_X12_keep T ∧ z_Rel c b (g_X11_keep S) (g_X12_keep T) := by
  have hcn := z_cdl hc
  have hbn := z_cdl hb
  obtain ⟨⟨nc, hB⟩, hP, hT, hK, hO, h17, h25⟩ := id h
  obtain ⟨c1, c2, c3⟩ := z_copy (s := 11) (t := 1) (Or.inr (by decide)) S
  obtain ⟨X, eX, x1, x2, x3, ⟨x4, x5, x6, x7⟩, x8⟩ := z_la (ρ := 1) (by decide) (z_s T 99 92 (Int32.ofInt 1))
  have eX' : g_X12_laysAside (Int32.ofInt 1) (z_s T 99 92 (Int32.ofInt 1)) = X := eX
  unfold f_X11_keep g_X11_keep f_X12_keep g_X12_keep f_X12_sizeOf
  rw [eX']
  have gX : ∀ a j, ¬ (137 ≤ a ∧ a ≤ 151 ∧ 1 ≤ j) → ¬ (a = 99 ∧ j = 92) → X a j = T a j := fun a j q1 q2 => by rw [x8 a j (by omega), z_sn q2]
  have g92 : X 99 92 = Int32.ofInt 1 := by rw [x8 99 92 (by omega), z_ss]
  have tr : ∀ a j, ¬ (a = 99 ∧ j = 92) → z_s T 99 92 (Int32.ofInt 1) a j = T a j := fun a j q => z_sn q
  have ks : z_Ks (g_X7_copy 11 1 S) X := by
    obtain ⟨a1, a2, a3, a4, a5, a6, a7, a8, a9, a10, a12, a13, a14⟩ := hB.1
    obtain ⟨p1, p2, p3⟩ := hP
    have k1 : ∀ g, g < 12 → X 137 (12 + g) = T 116 g := fun g hg => by
      have := (x1 g hg).1
      rw [tr 116 g (by omega), z_nar01 (h01.1 g hg)] at this
      exact this
    have k2 : ∀ k, k < 5 → X 144 (5 + k) = T 129 k := fun k hk => by
      have := (x2 k hk).1
      rw [tr 129 k (by omega), z_nar01 (h01.2.1 k hk)] at this
      exact this
    refine ⟨z_told_c a1 (c3 0 (by omega)) k1, z_co_c a2 (fun j hj => c2 1 j (by omega)) (fun j hj => ((x1 j hj).2.1).trans (tr _ _ (by omega))), fun g hg q => ?_, z_co_c a4 (fun j hj => c2 3 j (by omega)) (fun j hj => ((x1 j hj).2.2.2.1).trans (tr _ _ (by omega))), z_co_c a5 (fun j hj => c2 4 j (by omega)) (fun j hj => ((x1 j hj).2.2.2.2.1).trans (tr _ _ (by omega))), z_co_c a6 (fun j hj => c2 5 j (by omega)) (fun j hj => ((x1 j hj).2.2.2.2.2.1).trans (tr _ _ (by omega))), z_co_c a7 (fun j hj => c2 6 j (by omega)) (fun j hj => ((x1 j hj).2.2.2.2.2.2).trans (tr _ _ (by omega))), z_told_c a8 (c3 7 (by omega)) k2, z_co_c a9 (fun j hj => c2 7 j (by omega)) (fun j hj => ((x2 j hj).2.1).trans (tr _ _ (by omega))), z_co_c a10 (fun j hj => c2 8 j (by omega)) (fun j hj => ((x2 j hj).2.2).trans (tr _ _ (by omega))), z_co_c p1 (fun j hj => c2 9 j (by omega)) (fun j hj => (x3 j hj).trans (tr _ _ (by omega))), ?_, ?_, ?_, ?_⟩
    · rw [k1 g hg] at q
      have e1 : g_X7_copy 11 1 S 13 g = S 3 g := c2 2 g (by omega)
      have e2 : X 139 (12 + g) = T 118 g := ((x1 g hg).2.2.1).trans (tr _ _ (by omega))
      rw [e1, e2]
      exact a3 g hg q
    · rw [c3 11 (by omega), x4, tr 99 60 (by omega)]
      exact a12
    · rw [c3 12 (by omega), x5, tr 99 61 (by omega)]
      exact a13
    · rw [c3 13 (by omega), x6, tr 99 62 (by omega)]
      exact a14
    · rw [c3 14 (by omega), x7, tr 99 2 (by omega)]
      exact p3
  have e116 : X 116 = T 116 := funext fun j => gX _ j (by omega) (by omega)
  have f1 : ∀ a j, ¬ (11 ≤ a ∧ a ≤ 20) → ¬ (a = 0 ∧ j = 14) → z_s (g_X7_copy 11 1 S) 0 14 (Int32.ofInt 1) a j = S a j := fun a j q1 q2 => by rw [z_sn q2, c1 a j (by omega)]
  refine ⟨?_, ⟨nc, z_Bs_f hB (fun a q => funext fun j => f1 a j (by omega) (by omega)) (fun j q => f1 1 j (by omega) (by omega)) (fun a j q => gX a j (by omega) (by omega))⟩, z_PX_f hP (funext fun j => f1 _ _ (by omega) (by omega)) (f1 _ _ (by omega) (by omega)) (funext fun j => gX _ _ (by omega) (by omega)) (funext fun j => gX _ _ (by omega) (by omega)) (gX _ _ (by omega) (by omega)), z_Tp_f hT (funext fun j => f1 _ _ (by omega) (by omega)) (f1 _ _ (by omega) (by omega)) (funext fun j => gX _ _ (by omega) (by omega)) (gX _ _ (by omega) (by omega)), ⟨?_, fun _ => z_Ks_f ks (fun a j q => z_sn (by omega)) (fun a j q => rfl)⟩, z_Ot_f hO (fun a j q => f1 a j (by omega) (by omega)) (fun a j q => gX a j (by omega) (by omega)), ?_, ?_⟩
  · rw [c1 1 0 (by omega), z_toldG (b := S 1 0) (by rw [e116]; exact hB.1.1)]
    exact z_bc12 hB.1.1.1
  · rw [z_ss, g92]
  · rw [f1 b 7 (by omega) (by omega), gX 99 17 (by omega) (by omega)]
    exact h17
  · rw [gX 99 25 (by omega) (by omega)]
    exact h25
theorem z_undo_l : ∀ (r k : Nat) (U : v_Sf), r + k = 6 → ∃ W, r_X11_undo_22 r k U = (Int32.ofInt 1, W) ∧ (∀ j, k ≤ j → j < 6 → W 10 j = if U 10 j < U (33 + 2 * j) 1 then U 10 j else Int32.ofInt 0) ∧ (∀ a j, ¬ (a = 10 ∧ k ≤ j ∧ j < 6) → W a j = U a j) := by
  intro r
  induction r with
  | zero =>
    intro k U hk
    exact ⟨U, rfl, fun j h1 h2 => by omega, fun a j q => rfl⟩
  | succ r ih =>
    intro k U hk
    have ek : (z_i k).toInt.toNat = k := z_iin (by omega)
    have e0 : 0 ≤ (z_i k).toInt ∧ (z_i k).toInt < ((6 : Nat) : Int) := by
      rw [z_it3 (by omega)]
      omega
    rw [r_X11_undo_22, if_pos e0, ek]
    by_cases q : U 10 k < U (33 + 2 * k) 1
    · rw [if_pos q]
      obtain ⟨W, e, h1, h2⟩ := ih (k + 1) U (by omega)
      refine ⟨W, e, fun j q1 q2 => ?_, fun a j q1 => h2 a j (by omega)⟩
      by_cases e3 : j = k
      · subst e3
        rw [h2 _ _ (by omega), if_pos q]
      · exact h1 j (by omega) q2
    · rw [if_neg q]
      obtain ⟨W, e, h1, h2⟩ := ih (k + 1) (z_s U 10 k (Int32.ofInt 0)) (by omega)
      refine ⟨W, e, fun j q1 q2 => ?_, fun a j q1 => by rw [h2 a j (by omega), z_sn (by omega)]⟩
      by_cases e3 : j = k
      · subst e3
        rw [h2 _ _ (by omega), if_neg q, z_ss]
      · rw [h1 j (by omega) q2, z_sn (by omega), z_sn (by omega)]
theorem z_undo_ok {c b : Nat} (hc : z_cd c) (hb : z_cd b) {S T : v_Sf} (h : z_Rel c b S T) (h01 : z_B01 T) : f_X11_undo S = f_X12_undo T ∧ z_Rel c b (g_X11_undo S) (g_X12_undo T) := by
  have hcn := z_cdl hc
  have hbn := z_cdl hb
  obtain ⟨⟨nc, hB⟩, hP, hT, ⟨hK1, hK2⟩, hO, h17, h25⟩ := id h
  unfold f_X11_undo g_X11_undo f_X12_undo g_X12_undo F_X11_undo
  rw [hK1]
  by_cases q : T 99 92 = 0
  · rw [if_neg (not_not_intro q), if_neg (not_not_intro q), if_neg (not_not_intro q)]
    exact ⟨rfl, h⟩
  · rw [if_pos q, if_pos q, if_pos q]
    obtain ⟨a1, a2, a3, a4, a5, a6, a7, a8, a9, a10, a11, a12, a13, a14, a15⟩ := hK2 q
    obtain ⟨c1, c2, c3⟩ := z_copy (s := 1) (t := 11) (Or.inl (by decide)) S
    obtain ⟨X, eX, x1, x2, x3, ⟨x4, x5, x6, x7⟩, x8⟩ := z_bb (ρ := 1) (by decide) T
    have eX' : g_X12_bringsBack (Int32.ofInt 1) T = X := eX
    obtain ⟨W, eW, w1, w2⟩ := z_undo_l 6 0 (g_X7_copy 1 11 S) (by omega)
    rw [eX', show 6 - 0 = 6 from rfl, eW]
    have fW : ∀ a j, ¬ (1 ≤ a ∧ a ≤ 10) → W a j = S a j := fun a j q1 => by rw [w2 a j (by omega), c1 a j (by omega)]
    have gX : ∀ a j, ¬ (116 ≤ a ∧ a ≤ 122 ∨ 128 ≤ a ∧ a ≤ 131 ∨ a = 99 ∧ (j = 2 ∨ 60 ≤ j ∧ j ≤ 62)) → X a j = T a j := fun a j q1 => x8 a j (by omega)
    have k1 : ∀ g, g < 12 → X 116 g = T 137 (12 + g) := fun g hg => by
      have := (x1 g hg).1
      rw [z_nar01 (h01.2.2.1 _ (by omega))] at this
      exact this
    have k2 : ∀ k, k < 5 → X 129 k = T 144 (5 + k) := fun k hk => by
      have := (x2 k hk).1
      rw [z_nar01 (h01.2.2.2 _ (by omega))] at this
      exact this
    have wc : ∀ i j, (1 ≤ i ∧ i ≤ 6 ∧ j < 12 ∨ (i = 7 ∨ i = 8) ∧ j < 5) → W (1 + i) j = S (11 + i) j := fun i j q1 => by rw [w2 _ _ (by omega), c2 i j (by omega)]
    have wo : ∀ j, (j = 0 ∨ j = 7 ∨ 11 ≤ j ∧ j ≤ 14) → W 1 j = S 11 j := fun j q1 => by rw [w2 _ _ (by omega), c3 j q1]
    have hS : z_St 1 W X := by
      refine ⟨z_told_c a1 (wo 0 (by omega)) k1, z_co_c a2 (fun j hj => wc 1 j (by omega)) (fun j hj => (x1 j hj).2.1), fun g hg m => ?_, z_co_c a4 (fun j hj => wc 3 j (by omega)) (fun j hj => (x1 j hj).2.2.2.1), z_co_c a5 (fun j hj => wc 4 j (by omega)) (fun j hj => (x1 j hj).2.2.2.2.1), z_co_c a6 (fun j hj => wc 5 j (by omega)) (fun j hj => (x1 j hj).2.2.2.2.2.1), z_co_c a7 (fun j hj => wc 6 j (by omega)) (fun j hj => (x1 j hj).2.2.2.2.2.2), z_told_c a8 (wo 7 (by omega)) k2, z_co_c a9 (fun j hj => wc 7 j (by omega)) (fun j hj => (x2 j hj).2.1), z_co_c a10 (fun j hj => wc 8 j (by omega)) (fun j hj => (x2 j hj).2.2), ?_, ?_, ?_⟩
      · rw [k1 g hg] at m
        have e1 : W (1 + 2) g = S 13 g := wc 2 g (by omega)
        have e2 : X 118 g = T 139 (12 + g) := (x1 g hg).2.2.1
        rw [e1, e2]
        exact a3 g hg m
      · rw [wo 11 (by omega), x4]
        exact a12
      · rw [wo 12 (by omega), x5]
        exact a13
      · rw [wo 13 (by omega), x6]
        exact a14
    have hPX : z_PX 1 W X := by
      have pl : ∀ w, w < 6 → W (1 + 9) w = X 128 w ∧ (X 128 w = 0 ∨ X 128 w = T 147 (6 + w) ∧ (T 147 (6 + w)).toInt < (T 127 w).toInt) := fun w hw => by
        have e1 : g_X7_copy 1 11 S 10 w = S 20 w := c2 9 w (by omega)
        have e2 : S 20 w = T 147 (6 + w) := (a11 w hw).1
        have e3 : S (33 + 2 * w) 1 = T 127 w := (hB.2.1 w hw).1
        have e4 : X 128 w = if T 127 w ≤ T 147 (6 + w) then Int32.ofInt 0 else T 147 (6 + w) := x3 w hw
        have e5 : W (1 + 9) w = if S 20 w < S (33 + 2 * w) 1 then S 20 w else Int32.ofInt 0 := by
          have := w1 w (by omega) hw
          rw [e1, c1 (33 + 2 * w) 1 (by omega)] at this
          exact this
        rw [e5, e4, e2, e3]
        by_cases m : T 147 (6 + w) < T 127 w
        · rw [if_pos m, if_neg (fun n => by rw [z_ltI2] at m; rw [z_leI2] at n; omega)]
          exact ⟨rfl, Or.inr ⟨rfl, z_ltI2.mp m⟩⟩
        · rw [if_neg m, if_pos (by rw [z_ltI2] at m; rw [z_leI2]; omega)]
          exact ⟨rfl, Or.inl rfl⟩
      refine ⟨fun w hw => ?_, fun w hw => ?_, ?_⟩
      · have hw2 : w < 6 := hw
        refine ⟨(pl w hw).1, ?_⟩
        rcases (pl w hw).2 with e | ⟨e, _⟩
        · rw [e]
          decide
        · rw [e]
          exact (a11 w hw).2
      · rw [gX 127 w (by omega)]
        rcases (pl w hw).2 with e | ⟨e, e2⟩
        · exact Or.inl e
        · right
          rw [e]
          exact e2
      · rw [wo 14 (by omega), x7]
        exact a15
    exact ⟨rfl, z_Rel_f h ⟨nc, z_Bs_st hc hB hS (fun a q => funext fun j => fW a j (by omega)) (fun a j q => gX a j (by omega))⟩ hPX (z_Tp_f hT (funext fun j => fW _ _ (by omega)) (fW _ _ (by omega)) (funext fun j => gX _ _ (by omega)) (gX _ _ (by omega))) (fun a j q => fW a j (by omega)) (fun a j q => gX a j (by omega))⟩
