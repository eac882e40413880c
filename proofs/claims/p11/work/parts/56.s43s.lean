/-! months: wards, and nurses that are ill -/
theorem z_remE {x y : Int32} (h1 : 0 ≤ x.toInt) (h2 : 1 ≤ y.toInt) : (x - x / y * y).toInt = x.toInt % y.toInt := by
  obtain ⟨e1, n1, n2⟩ := v_div_e (x := x) (y := y) h1 h2
  have t0 : x.toInt.tmod y.toInt = x.toInt - y.toInt * x.toInt.tdiv y.toInt := Int.tmod_def _ _
  have t1 : 0 ≤ x.toInt.tmod y.toInt := Int.tmod_nonneg _ h1
  have n3 : 0 ≤ y.toInt * x.toInt.tdiv y.toInt := Int.mul_nonneg (by omega) n1
  have r1 := q_rng x
  have em : (x / y * y).toInt = y.toInt * x.toInt.tdiv y.toInt := by
    rw [← q_of (x / y), ← q_of y, ← Int32.ofInt_mul, q_of, e1, Int.mul_comm]
    exact q_ofr (by omega) (by omega)
  have es : (x - x / y * y).toInt = x.toInt.tmod y.toInt := by
    rw [← q_of x, ← q_of (Int32.ofInt x.toInt / y * y), ← Int32.ofInt_sub, q_of, em, ← t0]
    exact q_ofr (by omega) (by omega)
  rw [es, Int.tmod_eq_emod_of_nonneg h1]
noncomputable def z_mcB (c b s a j : Nat) : Prop := z_mc c s a j ∨ a = s + 8 ∨ a = s + 9 ∨ a = s ∧ j = 14 ∨ a = 75 ∨ a = b + 3
noncomputable def z_mmB (a j : Nat) : Prop := z_mm a j ∨ a = 99 ∧ j = 2 ∨ a = 128 ∨ a = 131
noncomputable def z_RB (c b s nc : Nat) (S0 T0 S T : v_Sf) : Prop := z_Mo c s nc S T ∧ z_PX s S T ∧ z_fj (z_mcB c b s) S0 S ∧ z_fj z_mmB T0 T
theorem z_PX_f {s : Nat} {S T S' T' : v_Sf} (h : z_PX s S T) (f1 : S' (s + 9) = S (s + 9)) (f2 : S' s 14 = S s 14) (g1 : T' 128 = T 128) (g2 : T' 127 = T 127) (g3 : T' 99 2 = T 99 2) : z_PX s S' T' := by
  obtain ⟨a, b, c⟩ := h
  refine ⟨by rw [f1, g1]; exact a, fun w hw => by rw [g1, g2]; exact b w hw, by rw [f2, g3]; exact c⟩
theorem z_R_r {c s nc : Nat} {S T : v_Sf} (h : z_Mo c s nc S T) : z_R c s nc S T S T := ⟨h, fun _ _ _ => rfl, fun _ _ _ => rfl⟩
theorem z_RB_in {c b s nc : Nat} (hc : z_cd c) (hs : z_st s) {S0 T0 S T S' T' : v_Sf} (h : z_RB c b s nc S0 T0 S T) (h1 : z_R c s nc S T S' T') : z_RB c b s nc S0 T0 S' T' := by
  have hsn := z_stn hs
  have hcl := z_cdl hc
  obtain ⟨a, b1, d, e⟩ := h
  obtain ⟨a1, f1, f2⟩ := h1
  refine ⟨a1, z_PX_f b1 (funext fun j => f1 _ _ (by unfold z_mc; omega)) (f1 _ _ (by unfold z_mc; omega)) (funext fun j => f2 _ _ (by unfold z_mm; omega)) (funext fun j => f2 _ _ (by unfold z_mm; omega)) (f2 _ _ (by unfold z_mm; omega)), fun a j q => ?_, fun a j q => ?_⟩
  · rw [f1 a j (fun n => q (Or.inl n))]
    exact d a j q
  · rw [f2 a j (fun n => q (Or.inl n))]
    exact e a j q
theorem z_weaken_ok {c b s nc : Nat} (hc : z_cd c) (hs : z_st s) {S0 T0 S T : v_Sf} (h : z_RB c b s nc S0 T0 S T) : z_RB c b s nc S0 T0 (g_X0_weaken c s S) (g_X12_weakens T) := by
  have mo := h.1.1.2.2.2.2.2.2.2.2.2.2.1
  have lp := z_RB_in hc hs h (z_weaken_l hc hs 12 0 S T (by omega) (z_R_r h.1))
  have r := z_remE (x := T 99 60) (y := Int32.ofInt 12) mo.2.1 (by decide)
  rw [show (Int32.ofInt 12).toInt = 12 from rfl] at r
  unfold g_X0_weaken F_X0_weaken g_X12_weakens F_X12_weakens
  rw [mo.1]
  generalize T 99 60 - T 99 60 / Int32.ofInt 12 * Int32.ofInt 12 = m at r
  by_cases q1 : m = Int32.ofInt 11
  · rw [if_pos q1, if_pos q1]
    exact lp
  · rw [if_neg q1, if_neg q1]
    by_cases q2 : m = 0
    · rw [if_pos q2, if_pos (by rw [q2]; decide)]
      exact lp
    · rw [if_neg q2]
      by_cases q3 : m = Int32.ofInt 1
      · rw [if_pos q3, if_pos (by rw [q3]; decide)]
        exact lp
      · rw [if_neg q3, if_neg]
        · exact h
        · intro n
          have n' := z_leI2.mp n
          rw [z_n1] at n'
          have m0 : 0 ≤ m.toInt := by omega
          have cs : m.toInt = 0 ∨ m.toInt = 1 := by omega
          rcases cs with e | e
          · exact q2 (z_inj2 e)
          · exact q3 (z_inj2 e)
/-- the place in a timetable goes on -/
theorem z_place {s k : Nat} (hk : k < 6) {S T : v_Sf} (hw : z_Wa S T) (hp : z_PX s S T) : f_X9_placeAfter (33 + 2 * k) (S (s + 9) k) S = (if T 127 k ≤ 0 then T 128 k else (T 128 k + Int32.ofInt 1) - (T 128 k + Int32.ofInt 1) / T 127 k * T 127 k) ∧ (0 ≤ (f_X9_placeAfter (33 + 2 * k) (S (s + 9) k) S).toInt ∧ (f_X9_placeAfter (33 + 2 * k) (S (s + 9) k) S).toInt ≤ 47) ∧ (f_X9_placeAfter (33 + 2 * k) (S (s + 9) k) S = 0 ∨ (f_X9_placeAfter (33 + 2 * k) (S (s + 9) k) S).toInt < (T 127 k).toInt) := by
  obtain ⟨w1, w2, _⟩ := hw k hk
  have p1 := hp.1 k hk
  have p2 := hp.2.1 k hk
  have e0 : (0 : Int32).toInt = 0 := rfl
  have e1 : (T 128 k + Int32.ofInt 1).toInt = (T 128 k).toInt + 1 := z_addI (by rw [z_n1]; omega)
  unfold f_X9_placeAfter
  rw [p1.1, w1]
  by_cases g : T 127 k ≤ T 128 k + Int32.ofInt 1
  · have g' := z_leI2.mp g
    rw [if_pos g]
    refine ⟨?_, by decide, Or.inl (by decide)⟩
    by_cases q : T 127 k ≤ 0
    · have q' := z_leI2.mp q
      rw [if_pos q]
      rcases p2 with p2 | p2
      · rw [p2]
        rfl
      · omega
    · have q' : ¬ (T 127 k).toInt ≤ (0 : Int32).toInt := fun n => q (z_leI2.mpr n)
      rw [if_neg q]
      refine z_inj2 ?_
      rw [z_remE (by omega) (by omega), e1, z_n0]
      rcases p2 with p2 | p2
      · rw [p2] at e1 g' ⊢
        have : (T 127 k).toInt = 1 := by omega
        rw [this]
        rfl
      · have : (T 128 k).toInt + 1 = (T 127 k).toInt := by omega
        rw [this, Int.emod_self]
  · have g' : ¬ (T 127 k).toInt ≤ (T 128 k + Int32.ofInt 1).toInt := fun n => g (z_leI2.mpr n)
    rw [if_neg g]
    refine ⟨?_, by omega, Or.inr (by omega)⟩
    rw [if_neg (by rw [z_leI2]; omega)]
    refine z_inj2 ?_
    rw [z_remE (by omega) (by omega), e1, Int.emod_eq_of_lt (by omega) (by omega)]
theorem z_lesson {s k : Nat} (hk : k < 6) {S T : v_Sf} (hw : z_Wa S T) (hp : z_PX s S T) : z_ls (f_X9_lessonAt (33 + 2 * k) (S (s + 9) k) S) (f_X12_lessonOf (z_i k) T) := by
  obtain ⟨w1, w2, _, _, _, _, w7⟩ := hw k hk
  have p1 := hp.1 k hk
  have p2 := hp.2.1 k hk
  have e0 : (0 : Int32).toInt = 0 := rfl
  have ek : (z_i k).toInt.toNat = k := z_iin (by omega)
  unfold f_X9_lessonAt f_X12_lessonOf
  rw [p1.1, w1, ek, if_neg (by rw [z_ltI2]; omega)]
  by_cases g : T 127 k ≤ T 128 k
  · have g' := z_leI2.mp g
    have z : T 127 k = 0 := by
      refine z_inj2 ?_
      rcases p2 with p2 | p2
      · rw [p2] at g'
        omega
      · omega
    rw [if_pos g, if_neg (not_not_intro z)]
    exact Or.inl ⟨rfl, rfl⟩
  · have g' : ¬ (T 127 k).toInt ≤ (T 128 k).toInt := fun n => g (z_leI2.mpr n)
    rw [if_neg g, if_pos (by intro n; rw [n] at g'; omega)]
    have e : ((Int32.ofInt 48) * (z_i k) + T 128 k).toInt.toNat = 48 * k + (T 128 k).toInt.toNat := by
      have e3 : (Int32.ofInt 48) * (z_i k) = z_i (48 * k) := by
        unfold z_i
        rw [← Int32.ofInt_mul]
        rfl
      rw [e3, ← z_ofN p1.2.1, z_iadd, z_iin (by omega)]
      rw [z_iin (by omega)]
    rw [e]
    exact w7 _ (by omega)
theorem z_works {s k : Nat} (hs : z_st s) (hk : k < 6) {S T : v_Sf} (h : z_St s S T) (hw : z_Wa S T) : (f_X7_works s (T 125 k) S = 0 ↔ f_X12_isWell (z_i k) T = 0) ∧ (¬ f_X12_isWell (z_i k) T = 0 → 0 ≤ (T 125 k).toInt) := by
  obtain ⟨_, _, _, _, _, w6, _⟩ := hw k hk
  have e0 : (0 : Int32).toInt = 0 := rfl
  have ek : (z_i k).toInt.toNat = k := z_iin (by omega)
  have nu := h.2.2.2.2.2.2.2.1
  have il := h.2.2.2.2.2.2.2.2.2.1
  unfold f_X7_works f_X7_hasNurse f_X12_isWell f_X12_isThere
  rw [ek]
  by_cases g : (T 125 k).toInt < 0
  · rw [if_pos (show T 125 k < 0 by rw [z_ltI2]; omega), if_pos (show Int32.ofInt 0 = 0 by decide), if_pos (show z_in (T 125 k) 0 4 = 0 by unfold z_in; rw [z_pb0, decide_eq_false_iff_not]; omega), if_pos (show Int32.ofInt 0 = 0 by decide)]
    exact ⟨Iff.rfl, fun n => absurd rfl n⟩
  · obtain ⟨n, hn, e⟩ : ∃ n, n < 5 ∧ T 125 k = z_i n := ⟨(T 125 k).toInt.toNat, by omega, (z_ofN (by omega)).symm⟩
    have en : (z_i n).toInt.toNat = n := z_iin (by omega)
    have nb := nu.2 n hn
    unfold z_bit at nb
    rw [e, if_neg (show ¬ z_i n < 0 by rw [show (0 : Int32) = z_i 0 from rfl, z_ilt (by omega) (by omega)]; omega), if_neg (show ¬ Int32.ofInt 5 ≤ z_i n by rw [show Int32.ofInt 5 = z_i 5 from rfl, z_ile (by omega) (by omega)]; omega), if_neg (show ¬ z_in (z_i n) 0 4 = 0 by unfold z_in; rw [z_pb0, decide_eq_false_iff_not, z_it3 (by omega)]; omega), en, (il n hn).1]
    refine ⟨?_, fun _ => by rw [z_it3 (by omega)]; omega⟩
    by_cases q : T 129 n = 0
    · have q2 : (S s 7 >>> (z_i n &&& 31)) &&& Int32.ofInt 1 = 0 := Classical.byContradiction (fun m => nb.mp m q)
      rw [if_pos q2, if_pos q]
    · have q2 : ¬ (S s 7 >>> (z_i n &&& 31)) &&& Int32.ofInt 1 = 0 := nb.mpr q
      rw [if_neg q2, if_neg q]
/-- one ward's month -/
theorem z_ward_l {c b s nc : Nat} (hc : z_cd c) (hs : z_st s) {S0 T0 : v_Sf} : ∀ (r k : Nat) (S T : v_Sf), r + k = 6 → z_RB c b s nc S0 T0 S T → ∃ S', r_X0_pass_7 c b s r k S = r_X0_pass_114 c b s 6 0 (g_X0_recover s (g_X0_quarrelAll c s (g_X0_breakToys c s S'))) ∧ z_RB c b s nc S0 T0 S' (r_X12_wardsGo_2 r k T) := by
  have hsn := z_stn hs
  have hcl := z_cdl hc
  intro r
  induction r with
  | zero =>
    intro k S T _ h
    refine ⟨S, ?_, ?_⟩
    · rw [r_X0_pass_7]
    · rw [r_X12_wardsGo_2]
      exact h
  | succ r ih =>
    intro k S T hk h
    have ek : (z_i k).toInt.toNat = k := z_iin (by omega)
    obtain ⟨hM, hP, hF, hG⟩ := h
    have wa := hM.2.1 k (by omega)
    have pl := z_place (s := s) (show k < 6 by omega) hM.2.1 hP
    have ls := z_lesson (s := s) (show k < 6 by omega) hM.2.1 hP
    have wk := z_works hs (show k < 6 by omega) hM.1 hM.2.1
    generalize hv : f_X9_placeAfter (33 + 2 * k) (S (s + 9) k) S = v at *
    generalize hl : f_X9_lessonAt (33 + 2 * k) (S (s + 9) k) S = l at *
    rw [r_X0_pass_7, r_X12_wardsGo_2, ek, hv, hl, wa.2.2.2.2.1, wa.2.2.2.1]
    -- the class's place is written first
    have m1 : z_Mo c s nc (z_s S (s + 9) k v) T := z_Mo_f hM (fun a q => z_sr (by omega)) (fun j _ => z_sn (by omega)) (z_sn (by omega)) (fun _ _ _ => rfl)
    have ew : f_X7_works s (T 125 k) (z_s S (s + 9) k v) = f_X7_works s (T 125 k) S := by
      unfold f_X7_works f_X7_hasNurse
      rw [z_sn (by omega), z_sn (by omega)]
    -- what is owed when the ward is through
    have fin : ∀ S2 T2, z_R c s nc (z_s S (s + 9) k v) T S2 T2 → z_RB c b s nc S0 T0 S2 (if T2 127 k ≤ 0 then T2 else z_s T2 128 k ((T2 128 k + Int32.ofInt 1) - (T2 128 k + Int32.ofInt 1) / T2 127 k * T2 127 k)) := by
      intro S2 T2 hR
      obtain ⟨r1, r2, r3⟩ := hR
      have e127 : T2 127 = T 127 := funext fun j => r3 _ _ (by unfold z_mm; omega)
      have e128 : T2 128 = T 128 := funext fun j => r3 _ _ (by unfold z_mm; omega)
      have e2 : T2 99 2 = T 99 2 := r3 _ _ (by unfold z_mm; omega)
      have s9 : S2 (s + 9) = z_s S (s + 9) k v (s + 9) := funext fun j => r2 _ _ (by unfold z_mc; omega)
      have s14 : S2 s 14 = S s 14 := by
        rw [r2 _ _ (by unfold z_mc; omega), z_sn (by omega)]
      rw [e127, e128]
      have key : ∀ T3 : v_Sf, (∀ a j, ¬ (a = 128 ∧ j = k) → T3 a j = T2 a j) → T3 128 k = v → z_RB c b s nc S0 T0 S2 T3 := by
        intro T3 f3 g3
        refine ⟨z_Mo_f r1 (fun _ _ => rfl) (fun _ _ => rfl) rfl (fun a j q => f3 a j (by omega)), ⟨?_, ?_, ?_⟩, fun a j q => ?_, fun a j q => ?_⟩
        · intro w hw
          rw [s9]
          by_cases q : w = k
          · rw [q, z_ss, g3]
            exact ⟨rfl, pl.2.1⟩
          · rw [z_sn (by omega), f3 _ _ (by omega), e128]
            exact hP.1 w hw
        · intro w hw
          rw [f3 127 w (by omega), e127]
          by_cases q : w = k
          · rw [q, g3]
            exact pl.2.2
          · rw [f3 _ _ (by omega), e128]
            exact hP.2.1 w hw
        · rw [f3 99 2 (by omega), e2, s14]
          exact hP.2.2
        · have q1 : ¬ z_mc c s a j := fun n => q (Or.inl n)
          have q2 : ¬ a = s + 9 := fun n => q (Or.inr (Or.inr (Or.inl n)))
          rw [r2 a j q1, z_sn (by omega)]
          exact hF a j q
        · have q1 : ¬ z_mm a j := fun n => q (Or.inl n)
          have q2 : ¬ a = 128 := fun n => q (Or.inr (Or.inr (Or.inl n)))
          rw [f3 a j (by omega), r3 a j q1]
          exact hG a j q
      by_cases q : T 127 k ≤ 0
      · rw [if_pos q]
        refine key T2 (fun _ _ _ => rfl) ?_
        rw [e128, pl.1, if_pos q]
      · rw [if_neg q]
        refine key _ (fun a j n => z_sn n) ?_
        rw [z_ss, pl.1, if_neg q]
    by_cases g : f_X12_isWell (z_i k) T = 0
    · rw [ew, if_pos (wk.1.mpr g), if_pos g]
      have f := fin _ _ (z_R_r m1)
      by_cases q : T 127 k ≤ 0
      · rw [if_pos q] at f ⊢
        exact ih (k + 1) _ _ (by omega) f
      · rw [if_neg q] at f ⊢
        exact ih (k + 1) _ _ (by omega) f
    · rw [ew, if_neg (fun n => g (wk.1.mp n)), if_neg g]
      have fd := z_feed_l hc hs (show k < 6 by omega) 12 0 _ T (T 124 k) (by omega) rfl (z_R_r m1)
      have fd' : z_R c s nc (z_s S (s + 9) k v) T (g_X0_strengthen c s (z_i k) (T 124 k) (z_s S (s + 9) k v)) (g_X12_feeds (z_i k) T) := fd
      have tc : z_R c s nc (z_s S (s + 9) k v) T (g_X0_teach c s (z_i k) l (g_X0_strengthen c s (z_i k) (T 124 k) (z_s S (s + 9) k v))) (g_X12_teaches (z_i k) (g_X12_feeds (z_i k) T)) := by
        have el : f_X12_lessonOf (z_i k) (g_X12_feeds (z_i k) T) = f_X12_lessonOf (z_i k) T := by
          have r3 := fd'.2.2
          unfold f_X12_lessonOf
          rw [show g_X12_feeds (z_i k) T 127 = T 127 from funext fun j => r3 _ _ (by unfold z_mm; omega), show g_X12_feeds (z_i k) T 128 = T 128 from funext fun j => r3 _ _ (by unfold z_mm; omega), show g_X12_feeds (z_i k) T 126 = T 126 from funext fun j => r3 _ _ (by unfold z_mm; omega)]
        unfold g_X0_teach F_X0_teach g_X12_teaches F_X12_teaches
        rw [el]
        rcases ls with ⟨q1, q2⟩ | ⟨q1, q2, q3⟩
        · rw [q1, q2, if_pos (by decide), show (12 - 0 : Nat) = 11 + 1 from rfl, r_X12_teaches_8, if_pos rfl]
          exact fd'
        · rw [← q1] at q2 q3 ⊢
          rw [if_neg (by rw [z_ltI2]; have e0 : (0 : Int32).toInt = 0 := rfl; omega), if_pos (by rw [z_ltI2]; have e0 : (Int32.ofInt 10).toInt = 10 := rfl; omega)]
          exact z_teach_l hc hs (show k < 6 by omega) ⟨q2, q3⟩ 12 0 _ _ (by omega) fd'
      have f := fin _ _ tc
      by_cases q : g_X12_teaches (z_i k) (g_X12_feeds (z_i k) T) 127 k ≤ 0
      · rw [if_pos q] at f ⊢
        exact ih (k + 1) _ _ (by omega) f
      · rw [if_neg q] at f ⊢
        exact ih (k + 1) _ _ (by omega) f
/-- the ill ones get better -/
theorem z_rec_l {c b s nc : Nat} (hc : z_cd c) (hs : z_st s) {S0 T0 : v_Sf} : ∀ (r k : Nat) (S T : v_Sf), r + k = 5 → z_RB c b s nc S0 T0 S T → ∃ T', r_X12_nursesGo_2 r k T = r_X12_nursesGo_34 6 0 T' ∧ z_RB c b s nc S0 T0 (r_X0_recover_2 s r k S) T' := by
  have hsn := z_stn hs
  have hcl := z_cdl hc
  intro r
  induction r with
  | zero =>
    intro k S T _ h
    refine ⟨T, by rw [r_X12_nursesGo_2], ?_⟩
    rw [r_X0_recover_2]
    exact h
  | succ r ih =>
    intro k S T hk h
    have ek : (z_i k).toInt.toNat = k := z_iin (by omega)
    obtain ⟨hM, hP, hF, hG⟩ := h
    have il := hM.1.2.2.2.2.2.2.2.2.2.1 k (by omega)
    have e0 : (0 : Int32).toInt = 0 := rfl
    have e1 : (T 131 k - Int32.ofInt 1).toInt = (T 131 k).toInt - 1 := z_subI (by rw [z_n1]; omega)
    have mx := z_maxI (Int32.ofInt 0) (T 131 k - Int32.ofInt 1)
    rw [z_n0, e1] at mx
    rw [r_X0_recover_2, r_X12_nursesGo_2, ek, il.1]
    have key : ∀ v T3, z_max (Int32.ofInt 0) (T 131 k - Int32.ofInt 1) = v → T3 = z_s T 131 k v → z_RB c b s nc S0 T0 (z_s S (s + 8) k v) T3 := by
      intro v T3 hv h3
      rw [h3]
      have hv' : 0 ≤ v.toInt ∧ v.toInt ≤ 10 := by
        rw [← hv, mx]
        omega
      exact ⟨z_Mo_ill hc hs hM k hv', z_PX_f hP (z_sr (by omega)) (z_sn (by omega)) (z_sr (by decide)) (z_sr (by decide)) (z_sn (by omega)), fun a j q => (z_sn (by unfold z_mcB at q; omega)).trans (hF a j q), fun a j q => (z_sn (by unfold z_mmB at q; omega)).trans (hG a j q)⟩
    by_cases q : T 131 k ≤ 0
    · have q' := z_leI2.mp q
      rw [if_pos q]
      have z : z_max (Int32.ofInt 0) (T 131 k - Int32.ofInt 1) = T 131 k := z_inj2 (by rw [mx]; omega)
      rw [z]
      exact ih (k + 1) _ _ (by omega) (key _ _ z (z_s_id rfl).symm)
    · have q' : ¬ (T 131 k).toInt ≤ (0 : Int32).toInt := fun n => q (z_leI2.mpr n)
      rw [if_neg q]
      have z : z_max (Int32.ofInt 0) (T 131 k - Int32.ofInt 1) = T 131 k - Int32.ofInt 1 := z_inj2 (by rw [mx, e1]; omega)
      rw [z]
      exact ih (k + 1) _ _ (by omega) (key _ _ z rfl)
