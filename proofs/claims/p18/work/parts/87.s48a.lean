/-! quarrel, count, added: the answers -/
theorem z_angryB {c s nc : Nat} (hc : z_cd c) (hs : z_st s) {S T : v_Sf} (h : z_Bs c s nc S T) {g j : Nat} (hg : g < 12) (hj : j < 12) (ht : ¬ T 116 g = 0) (hu : ¬ T 116 j = 0) : f_X3_anyHolds c (Int32.ofInt 120) (g_X3_lookAtTwo s (z_i g) (z_i j) S) = f_X12_isAngry (z_i g) (z_i j) T ∧ z_Bs c s nc (g_X3_anyHolds c (Int32.ofInt 120) (g_X3_lookAtTwo s (z_i g) (z_i j) S)) (g_X12_isAngry (z_i g) (z_i j) T) ∧ (f_X12_isAngry (z_i g) (z_i j) T = Int32.ofInt 0 ∨ f_X12_isAngry (z_i g) (z_i j) T = Int32.ofInt 1) ∧ (∀ a, a ≠ 51 → a ≠ c + 3 → g_X3_anyHolds c (Int32.ofInt 120) (g_X3_lookAtTwo s (z_i g) (z_i j) S) a = S a) ∧ ∀ a i, ¬ (a = 99 ∧ 27 ≤ i ∧ i ≤ 40) → a ≠ 114 → a ≠ 115 → g_X12_isAngry (z_i g) (z_i j) T a i = T a i := by
  have hsn := z_stn hs
  have hcl := z_cdl hc
  have ej : (z_i j).toInt.toNat = j := z_iin (by omega)
  have lk := z_lookG hs h.1 h.2.1 hg ht
  have st := h.1.2.1 j hj
  have qr := h.1.2.2.1 j hj hu
  have E1 : g_X3_lookAtTwo s (z_i g) (z_i j) S = z_s (z_s (g_X3_lookAtGust s (z_i g) S) 51 6 (T 117 j)) 51 7 (S (s + 2) j) := by
    have hh : ¬ f_X7_hasGust s (z_i j) (g_X3_lookAtGust s (z_i g) S) = 0 := by
      rw [z_hasG _ hj, lk.1 s (by omega)]
      exact not_not_intro ((h.1.1.2 j hj).mpr hu)
    unfold g_X3_lookAtTwo
    rw [if_neg hh, ej, lk.1 (s + 1) (by omega), lk.1 (s + 2) (by omega), st.1]
  have E2 : f_X12_isAngry (z_i g) (z_i j) T = f_X12_says (Int32.ofInt 120) (z_s (z_s (g_X12_gustStands (z_i g) T) 99 33 (T 117 j)) 99 34 (S (s + 2) j)) ∧ g_X12_isAngry (z_i g) (z_i j) T = g_X12_says (Int32.ofInt 120) (z_s (z_s (g_X12_gustStands (z_i g) T) 99 33 (T 117 j)) 99 34 (S (s + 2) j)) := by
    unfold f_X12_isAngry g_X12_isAngry
    rw [ej, lk.2.1 118 j (by omega), lk.2.1 117 j (by omega)]
    rcases qr with ⟨q1, q2⟩ | ⟨q1, q2, q3⟩
    · rw [if_neg (not_not_intro q2), if_neg (not_not_intro q2), q1]
      exact ⟨rfl, rfl⟩
    · have n : ¬ T 118 j = Int32.ofInt (-1) := by
        intro e
        rw [e] at q2
        exact absurd q2 (by decide)
      rw [if_pos n, if_pos n, q1]
      exact ⟨rfl, rfl⟩
  have f1 : ∀ a, a ≠ 51 → z_s (z_s (g_X3_lookAtGust s (z_i g) S) 51 6 (T 117 j)) 51 7 (S (s + 2) j) a = S a := fun a q => (z_sr q).trans ((z_sr q).trans (lk.1 a q))
  have f2 : ∀ a i, ¬ (a = 99 ∧ 27 ≤ i ∧ i ≤ 40) → z_s (z_s (g_X12_gustStands (z_i g) T) 99 33 (T 117 j)) 99 34 (S (s + 2) j) a i = T a i := fun a i q => (z_sn (by omega)).trans ((z_sn (by omega)).trans (lk.2.1 a i q))
  have hv : z_vw (fun a => f_X1_valueAt a (z_s (z_s (g_X3_lookAtGust s (z_i g) S) 51 6 (T 117 j)) 51 7 (S (s + 2) j))) (fun a => f_X12_valueOf a (z_s (z_s (g_X12_gustStands (z_i g) T) 99 33 (T 117 j)) 99 34 (S (s + 2) j))) := by
    refine z_vw_mk (fun i hi => ?_) ?_
    · by_cases q : i = 7
      · rw [q, z_ss, z_ss]
      · by_cases q2 : i = 6
        · rw [q2, z_sn (by omega), z_ss, z_sn (by omega), z_ss]
        · rw [z_sn (by omega), z_sn (by omega), z_sn (by omega), z_sn (by omega)]
          exact lk.2.2.1 i hi
    · rw [z_sn (by omega), z_sn (by omega), z_sn (by omega), z_sn (by omega), lk.2.2.2.1, lk.2.1 99 60 (by omega)]
  have h1 : z_Bs c s nc (z_s (z_s (g_X3_lookAtGust s (z_i g) S) 51 6 (T 117 j)) 51 7 (S (s + 2) j)) (z_s (z_s (g_X12_gustStands (z_i g) T) 99 33 (T 117 j)) 99 34 (S (s + 2) j)) := z_Bs_f h (fun a q => f1 a (by omega)) (fun j _ => by rw [f1 s (by omega)]) (fun a i q => f2 a i (by omega))
  have am := z_holds hc (L := Int32.ofInt 120) h1.2.2.2.1 h1.2.2.2.2 hv
  rw [E1, E2.1, E2.2]
  refine ⟨am.1, z_Bs_f h1 (fun a q => am.2.1 a (by omega)) (fun j _ => by rw [am.2.1 s (by omega)]) (fun a i q => by rw [am.2.2 a (by omega) (by omega)]), z_any01 _ _ _, fun a q1 q2 => (am.2.1 a q2).trans (f1 a q1), fun a i q1 q2 q3 => by rw [am.2.2 a q2 q3]; exact f2 a i q1⟩
theorem z_oddsB {c s nc : Nat} (hc : z_cd c) (hs : z_st s) {S T : v_Sf} (h : z_Bs c s nc S T) {g j : Nat} (hg : g < 12) (hj : j < 12) (ht : ¬ T 116 g = 0) (hu : ¬ T 116 j = 0) : f_X3_atOdds c s (z_i g) (z_i j) S = f_X12_doQuarrel (z_i g) (z_i j) T ∧ z_Bs c s nc (g_X3_atOdds c s (z_i g) (z_i j) S) (g_X12_doQuarrel (z_i g) (z_i j) T) ∧ (∀ a, a ≠ 51 → a ≠ c + 3 → g_X3_atOdds c s (z_i g) (z_i j) S a = S a) ∧ ∀ a i, ¬ (a = 99 ∧ 27 ≤ i ∧ i ≤ 40) → a ≠ 114 → a ≠ 115 → g_X12_doQuarrel (z_i g) (z_i j) T a i = T a i := by
  have a1 := z_angryB hc hs h hg hj ht hu
  have a2 := z_angryB hc hs a1.2.1 hj hg (by rw [a1.2.2.2.2 116 _ (by omega) (by omega) (by omega)]; exact hu) (by rw [a1.2.2.2.2 116 _ (by omega) (by omega) (by omega)]; exact ht)
  unfold f_X3_atOdds g_X3_atOdds f_X12_doQuarrel g_X12_doQuarrel
  rw [a1.1, a2.1]
  by_cases q : f_X12_isAngry (z_i g) (z_i j) T = 0
  · simp only [if_pos q, if_neg (not_not_intro q)]
    refine ⟨?_, a2.2.1, fun a q1 q2 => (a2.2.2.2.1 a q1 q2).trans (a1.2.2.2.1 a q1 q2), fun a i q1 q2 q3 => (a2.2.2.2.2 a i q1 q2 q3).trans (a1.2.2.2.2 a i q1 q2 q3)⟩
    rcases a2.2.2.1 with e | e
    · rw [e]
      rfl
    · rw [e]
      rfl
  · simp only [if_neg q, if_pos q]
    exact ⟨trivial, a1.2.1, a1.2.2.2.1, a1.2.2.2.2⟩
theorem z_quarrel_ans {c b : Nat} (hc : z_cd c) {S T : v_Sf} (h : z_Rel c b S T) (g j : Int32) : f_X11_quarrel c g j S = f_X12_quarrel g j T := by
  obtain ⟨⟨nc, hB⟩, _⟩ := id h
  unfold f_X11_quarrel f_X12_quarrel
  rw [z_told_eq hB.1 g, z_told_eq hB.1 j]
  by_cases t : f_X12_isTold g T = 0
  · rw [if_pos t, if_pos t]
  · rw [if_neg t, if_neg t]
    by_cases u : f_X12_isTold j T = 0
    · rw [if_pos u, if_pos u]
    · rw [if_neg u, if_neg u]
      by_cases e : g = j
      · rw [if_neg (not_not_intro e), if_pos e]
      · rw [if_pos e, if_neg e]
        obtain ⟨hg, tg⟩ := z_tld t
        obtain ⟨hj, tj⟩ := z_tld u
        obtain ⟨x, hx, rfl⟩ : ∃ x, x < 12 ∧ g = z_i x := ⟨g.toInt.toNat, by omega, (z_ofN hg.1).symm⟩
        obtain ⟨y, hy, rfl⟩ : ∃ y, y < 12 ∧ j = z_i y := ⟨j.toInt.toNat, by omega, (z_ofN hj.1).symm⟩
        rw [z_iin (by omega)] at tg tj
        rw [(z_oddsB hc (Or.inl rfl) hB hx hy tg tj).1]
theorem z_told_up {n n' : Nat} (hn : n ≤ n') (hn' : n' ≤ 12) {b : Int32} {I : Nat → Int32} (h : z_told n (2 ^ n - 1 : Nat) b I) : z_told n' (2 ^ n' - 1 : Nat) b (fun k => if k < n then I k else 0) := by
  obtain ⟨⟨h1, h2⟩, h3⟩ := h
  have hp : 2 ^ n ≤ 2 ^ n' := Nat.pow_le_pow_right (by decide) hn
  have hp1 : 1 ≤ 2 ^ n := Nat.one_le_two_pow
  have hb := z_toN h1
  refine ⟨⟨h1, by omega⟩, fun g hg => ?_⟩
  by_cases q : g < n
  · simp only [if_pos q]
    exact h3 g q
  · simp only [if_neg q]
    rw [z_bitL _ (by omega), BitVec.getLsbD, Nat.testBit_lt_two_pow (by have : 2 ^ n ≤ 2 ^ g := Nat.pow_le_pow_right (by decide) (by omega); omega)]
    simp
theorem z_toldN {b : Int32} {T : v_Sf} (h : z_told 5 31 b (T 129)) : f_X12_toldNurses T = b := by
  unfold f_X12_toldNurses F_X12_toldNurses
  rw [show 5 - 0 = 5 from rfl]
  refine z_bits_ok (n := 5) (by decide) h (r_X12_toldNurses_4 T) (fun k x => by rw [r_X12_toldNurses_4]) (fun r k x hk => ?_)
  rw [r_X12_toldNurses_4, z_iin (by omega)]
theorem z_told9 {b : Int32} {T : v_Sf} (h : z_told 4 (2 ^ 4 - 1 : Nat) b (T 156)) : f_X12_toldOf (Int32.ofInt 9) T = b := by
  unfold f_X12_toldOf F_X12_toldOf
  rw [show 10 - 0 = 10 from rfl]
  refine z_bits_ok (n := 10) (by decide) (z_told_up (by decide) (by decide) h) (r_X12_toldOf_4 (Int32.ofInt 9) T) (fun k x => by rw [r_X12_toldOf_4]) (fun r k x hk => ?_)
  rw [r_X12_toldOf_4, z_iin (by omega), if_neg (not_not_intro rfl)]
  by_cases q : k < 4
  · rw [if_neg (by rw [show Int32.ofInt 4 = z_i 4 from rfl, z_ile (by omega) (by omega)]; omega), if_pos q]
  · rw [if_pos (by rw [show Int32.ofInt 4 = z_i 4 from rfl, z_ile (by omega) (by omega)]; omega), if_neg q, if_pos rfl]
theorem z_told10 {b : Int32} {T : v_Sf} (h : z_told 10 (2 ^ 10 - 1 : Nat) b (T 159)) : f_X12_toldOf (Int32.ofInt 10) T = b := by
  unfold f_X12_toldOf F_X12_toldOf
  rw [show 10 - 0 = 10 from rfl]
  refine z_bits_ok (n := 10) (by decide) h (r_X12_toldOf_4 (Int32.ofInt 10) T) (fun k x => by rw [r_X12_toldOf_4]) (fun r k x hk => ?_)
  rw [r_X12_toldOf_4, z_iin (by omega), if_pos (by decide), if_neg (not_not_intro rfl)]
theorem z_told11 {b : Int32} {T : v_Sf} (h : z_told 5 (2 ^ 5 - 1 : Nat) b (T 162)) : f_X12_toldOf (Int32.ofInt 11) T = b := by
  unfold f_X12_toldOf F_X12_toldOf
  rw [show 10 - 0 = 10 from rfl]
  refine z_bits_ok (n := 10) (by decide) (z_told_up (by decide) (by decide) h) (r_X12_toldOf_4 (Int32.ofInt 11) T) (fun k x => by rw [r_X12_toldOf_4]) (fun r k x hk => ?_)
  rw [r_X12_toldOf_4, z_iin (by omega), if_pos (by decide), if_pos (by decide)]
  by_cases q : k < 5
  · rw [if_neg (by rw [show Int32.ofInt 5 = z_i 5 from rfl, z_ile (by omega) (by omega)]; omega), if_pos q]
  · rw [if_pos (by rw [show Int32.ofInt 5 = z_i 5 from rfl, z_ile (by omega) (by omega)]; omega), if_neg q, if_pos rfl]
theorem z_count_ans {c b : Nat} {S T : v_Sf} (h : z_Rel c b S T) (a : Int32) : f_X11_count c b a S = f_X12_count a T := by
  obtain ⟨⟨nc, ⟨a1, a2, a3, a4, a5, a6, a7, a8, a9, a10, a12, a13, a14⟩, b1, b3, b4, b5⟩, ⟨p1, p2, p3⟩, ⟨t1, t2, t3⟩, hK, ⟨o1, o2, o3, o4, o5, o6, o7, o8⟩, h17, h25⟩ := h
  unfold f_X11_count f_X12_count f_X3_clauses f_X3_ruleCount
  by_cases r : 0 ≤ (a - Int32.ofInt 20).toInt ∧ (a - Int32.ofInt 20).toInt ≤ 9
  · obtain ⟨k, hk, e⟩ : ∃ k, k < 10 ∧ a - Int32.ofInt 20 = z_i k := ⟨(a - Int32.ofInt 20).toInt.toNat, by omega, (z_ofN r.1).symm⟩
    have ea : a = z_i (k + 20) := by
      rw [← z_iadd, ← e, show z_i 20 = Int32.ofInt 20 from rfl, Int32.sub_add_cancel]
    have ne : ∀ m, m < 20 → ¬ a = Int32.ofInt (m : Nat) := fun m hm q => by
      rw [ea] at q
      have := congrArg (fun z => z.toInt.toNat) (show z_i (k + 20) = z_i m from q)
      simp only [z_iin (show k + 20 < 2147483648 by omega), z_iin (show m < 2147483648 by omega)] at this
      omega
    rw [if_neg (show ¬ a = Int32.ofInt 0 from ne 0 (by omega)), if_neg (show ¬ a = Int32.ofInt 1 from ne 1 (by omega)), if_neg (show ¬ a = Int32.ofInt 2 from ne 2 (by omega)), if_neg (show ¬ a = Int32.ofInt 3 from ne 3 (by omega)), if_neg (show ¬ a = Int32.ofInt 4 from ne 4 (by omega)), if_neg (show ¬ a = Int32.ofInt 5 from ne 5 (by omega)), if_neg (show ¬ a = Int32.ofInt 6 from ne 6 (by omega)), if_neg (show ¬ a = Int32.ofInt 7 from ne 7 (by omega)), if_neg (show ¬ a = Int32.ofInt 8 from ne 8 (by omega)), if_neg (show ¬ a = Int32.ofInt 9 from ne 9 (by omega)), if_neg (show ¬ a = Int32.ofInt 10 from ne 10 (by omega)), if_neg (show ¬ a = Int32.ofInt 11 from ne 11 (by omega)), if_neg (fun m => z_within.mp m r), if_neg (fun m => z_in0.mp m r)]
    exact (b3 _ (by omega)).1
  · rw [if_pos (z_in0.mpr r), if_pos (z_within.mpr r), a12.1, a13, a14, z_toldG a1, z_toldN a8, b4.1, b5, h17, t2, p3.1, z_told9 o1, z_told10 o4, z_told11 o6]
theorem z_north (s : Int32) : ∀ q, q < 8 → f_X11_northward (z_i q) s = f_X12_partOf s (z_i q)
  | 0, _ => rfl
  | 1, _ => rfl
  | 2, _ => rfl
  | 3, _ => rfl
  | 4, _ => rfl
  | 5, _ => rfl
  | 6, _ => rfl
  | 7, _ => rfl
theorem z_turn_all : ∀ q : Fin 8, (z_i q.val &&& Int32.ofInt 7) = z_i q.val ∧ ((z_i q.val + Int32.ofInt 6) &&& Int32.ofInt 7) = z_i ((q.val + 6) % 8) ∧ ((z_i q.val + Int32.ofInt 6) - (z_i q.val + Int32.ofInt 6) / Int32.ofInt 8 * Int32.ofInt 8) = z_i ((q.val + 6) % 8) := by decide +kernel
theorem z_added_l {S T : v_Sf} (h : z_St 1 S T) {w x : Int32} (hw : 0 ≤ w.toInt ∧ w.toInt ≤ 6) (hx : 0 ≤ x.toInt ∧ x.toInt ≤ 1) : ∀ (r k : Nat) (y : Int32), k + r = 12 → r_X11_added_24 w x S r k y = r_X12_added_29 w x T r k y := by
  obtain ⟨a1, a2, a3, a4, a5, _⟩ := id h
  intro r
  induction r with
  | zero => intro k y _; rw [r_X11_added_24, r_X12_added_29]
  | succ r ih =>
    intro k y hk
    have ek : (z_i k).toInt.toNat = k := z_iin (by omega)
    have hg := z_hasG2 (s := 1) h (g := k) (by omega)
    have e2 : S 2 k = T 117 k := (a2 k (by omega)).1
    have e5 : S 5 k = T 120 k := (a5 k (by omega)).1
    rw [r_X11_added_24, r_X12_added_29, ek, e2, e5]
    by_cases t : T 116 k = 0
    · rw [if_pos (hg.mpr t), if_pos t]
      exact ih (k + 1) y (by omega)
    · rw [if_neg (fun m => t (hg.mp m)), if_neg t]
      have ne8 : ∀ {z : Int32}, 0 ≤ z.toInt ∧ z.toInt ≤ 7 → ¬ z = Int32.ofInt 8 ∧ ¬ z = Int32.ofInt (-1) := fun hz => ⟨fun e => by rw [e] at hz; exact absurd hz.2 (by decide), fun e => by rw [e] at hz; exact absurd hz.1 (by decide)⟩
      rcases a3 k (by omega) t with ⟨q1, q2⟩ | ⟨q1, q2⟩
      · have q1 : S 3 k = Int32.ofInt 8 := q1
        rw [q1, if_pos rfl, if_pos q2, ite_self, ite_self]
        exact ih (k + 1) y (by omega)
      · have q1 : S 3 k = T 118 k := q1
        obtain ⟨n8, n1⟩ := ne8 q2
        obtain ⟨z, hz, ez⟩ : ∃ z, z < 8 ∧ T 118 k = z_i z := ⟨(T 118 k).toInt.toNat, by omega, (z_ofN q2.1).symm⟩
        obtain ⟨u1, u2, u3⟩ := z_turn_all ⟨z, hz⟩
        simp only at u1 u2 u3
        rw [q1, if_neg n8, if_neg n1, ez, u1, u2, u3, z_north _ z hz, z_north _ _ (Nat.mod_lt _ (by decide))]
        have wh : ∀ (A B : Int32), (if ¬ x = 0 then A else B) = (if ¬ x = Int32.ofInt 1 then B else A) := by
          intro A B
          rcases z_01 hx with e | e
          · rw [e, if_neg (not_not_intro rfl), if_pos (by decide)]
          · rw [e, if_pos (by decide), if_neg (not_not_intro rfl)]
        rw [wh]
        by_cases w6 : w = Int32.ofInt 6
        · rw [if_pos w6, if_pos (show Int32.ofInt 6 ≤ w by rw [w6]; decide), ih (k + 1) _ (by omega), ih (k + 1) _ (by omega)]
        · have n6 : ¬ Int32.ofInt 6 ≤ w := fun m => by
            have := z_ne w6
            rw [z_leI2, show (Int32.ofInt 6).toInt = 6 from rfl] at m
            omega
          rw [if_neg w6, if_neg n6]
          by_cases ew : T 120 k = w
          · rw [if_neg (not_not_intro ew), if_pos ew, ih (k + 1) _ (by omega), ih (k + 1) _ (by omega)]
          · rw [if_pos ew, if_neg ew]
            exact ih (k + 1) y (by omega)
theorem z_added_ans {c b : Nat} {S T : v_Sf} (h : z_Rel c b S T) (w x : Int32) : f_X11_added w x S = f_X12_added w x T := by
  obtain ⟨⟨nc, hB⟩, _⟩ := id h
  unfold f_X11_added f_X12_added F_X11_added F_X12_added
  by_cases r : 0 ≤ w.toInt ∧ w.toInt ≤ 6
  · rw [if_neg (fun m => z_within.mp m r), if_neg (fun m => z_in0.mp m r)]
    by_cases r2 : 0 ≤ x.toInt ∧ x.toInt ≤ 1
    · rw [if_pos (fun m => z_within.mp m r2), if_pos (fun m => z_in0.mp m r2)]
      exact z_added_l hB.1 r r2 12 0 _ (by omega)
    · rw [if_neg (not_not_intro (z_within.mpr r2)), if_neg (not_not_intro (z_in0.mpr r2))]
  · rw [if_pos (z_within.mpr r), if_pos (z_in0.mpr r)]
section CA_quarrel
variable {L : Nat} {xs : Nat → Int32} {S : v_Sf} {R : v_Rf} {Q : Option Value → v_Sf → v_Rf → Prop}
theorem a_X11_quarrel (v1 v2 : Int32) (hT : v_Tb v_ty S R) (hO : v_Op S) (hK : z_K S R) (hq : ∀ S' R', v_Tb v_ty S' R' → v_Op S' → z_K S' R' → Q (some (.int (f_X12_quarrel v1 v2 S'))) S' R') : w_T L xs 59 m_X11_quarrel 0 (lv_args 0 [.ref 1, .int v1, .int v2]) [] S R Q := by
  obtain ⟨c, b, e, hr, hR⟩ := id hK
  obtain ⟨hc, hb, he, hn, hL, hB, hE, hW⟩ := id hr
  refine z_use (v_met 60 131 rw_158 (List.mem_of_getElem? (i := 0) rfl) (Nat.le_of_ble_eq_true rfl)) (Nat.le_of_ble_eq_true rfl) mt_X11_quarrel ⟨rfl, ⟨_, rfl, (q_rng _).1, (q_rng _).2⟩, ⟨_, rfl, (q_rng _).1, (q_rng _).2⟩, trivial⟩ hT hO (fun n d => c_X11_quarrel L xs n d hW hL hc v1 v2 S) (fun r S1 R1 S2 R2 hT1 hO1 hr1 hF ee q => ?_)
  have hS1 := z_K_T hc hb hR hF rfl
  obtain ⟨v, hv, hRR, hf, hg⟩ := q
  have k1 := z_quarrel_ans hc hS1 v1 v2
  rw [← hv, ← hf, k1]
  exact hq S1 R1 hT1 hO1 (z_K_fr hK hF rfl)
theorem a_X12_quarrel (v1 v2 : Int32) (hT : v_Tb v_ty S R) (hO : v_Op S) (hK : z_K S R) (hq : ∀ S' R', v_Tb v_ty S' R' → v_Op S' → z_K S' R' → Q (some (.int (f_X12_quarrel v1 v2 S))) S' R') : w_T L xs 59 m_X12_quarrel 0 (lv_args 0 [.ref 100, .int v1, .int v2]) [] S R Q := by
  refine z_use (v_met 60 248 rw_221 (List.mem_of_getElem? (i := 0) rfl) (Nat.le_of_ble_eq_true rfl)) (Nat.le_of_ble_eq_true rfl) mt_X12_quarrel ⟨rfl, ⟨_, rfl, (q_rng _).1, (q_rng _).2⟩, ⟨_, rfl, (q_rng _).1, (q_rng _).2⟩, trivial⟩ hT hO (fun n d => c_X12_quarrel L xs n d v1 v2 S R) (fun r S1 R1 S2 R2 hT1 hO1 hr1 hF ee q => ?_)
  obtain ⟨v, hv, hRR, hf, hg⟩ := q
  rw [← hv, ← hf]
  exact hq S1 R1 hT1 hO1 (z_K_fr hK hF rfl)
end CA_quarrel
section CA_count
variable {L : Nat} {xs : Nat → Int32} {S : v_Sf} {R : v_Rf} {Q : Option Value → v_Sf → v_Rf → Prop}
theorem a_X11_count (v1 : Int32) (hT : v_Tb v_ty S R) (hO : v_Op S) (hK : z_K S R) (hq : ∀ S' R', v_Tb v_ty S' R' → v_Op S' → z_K S' R' → Q (some (.int (f_X12_count v1 S'))) S' R') : w_T L xs 59 m_X11_count 0 (lv_args 0 [.ref 1, .int v1]) [] S R Q := by
  obtain ⟨c, b, e, hr, hR⟩ := id hK
  obtain ⟨hc, hb, he, hn, hL, hB, hE, hW⟩ := id hr
  refine z_use (v_met 60 132 rw_159 (List.mem_of_getElem? (i := 0) rfl) (Nat.le_of_ble_eq_true rfl)) (Nat.le_of_ble_eq_true rfl) mt_X11_count ⟨rfl, ⟨_, rfl, (q_rng _).1, (q_rng _).2⟩, trivial⟩ hT hO (fun n d => c_X11_count L xs n d hL hc hB hb v1 S) (fun r S1 R1 S2 R2 hT1 hO1 hr1 hF ee q => ?_)
  have hS1 := z_K_T hc hb hR hF rfl
  obtain ⟨v, hv, hRR, hf, hg⟩ := q
  have k1 := z_count_ans hS1 v1
  rw [← hv, ← hf, k1]
  exact hq S1 R1 hT1 hO1 (z_K_fr hK hF rfl)
theorem a_X12_count (v1 : Int32) (hT : v_Tb v_ty S R) (hO : v_Op S) (hK : z_K S R) (hq : ∀ S' R', v_Tb v_ty S' R' → v_Op S' → z_K S' R' → Q (some (.int (f_X12_count v1 S))) S' R') : w_T L xs 59 m_X12_count 0 (lv_args 0 [.ref 100, .int v1]) [] S R Q := by
  refine z_use (v_met 60 298 rw_270 (List.mem_of_getElem? (i := 0) rfl) (Nat.le_of_ble_eq_true rfl)) (Nat.le_of_ble_eq_true rfl) mt_X12_count ⟨rfl, ⟨_, rfl, (q_rng _).1, (q_rng _).2⟩, trivial⟩ hT hO (fun n d => c_X12_count L xs n d v1 S R) (fun r S1 R1 S2 R2 hT1 hO1 hr1 hF ee q => ?_)
  obtain ⟨v, hv, hRR, hf, hg⟩ := q
  rw [← hv, ← hf]
  exact hq S1 R1 hT1 hO1 (z_K_fr hK hF rfl)
end CA_count
section CA_added
variable {L : Nat} {xs : Nat → Int32} {S : v_Sf} {R : v_Rf} {Q : Option Value → v_Sf → v_Rf → Prop}
theorem a_X11_added (v1 v2 : Int32) (hT : v_Tb v_ty S R) (hO : v_Op S) (hK : z_K S R) (hq : ∀ S' R', v_Tb v_ty S' R' → v_Op S' → z_K S' R' → Q (some (.int (f_X12_added v1 v2 S'))) S' R') : w_T L xs 59 m_X11_added 0 (lv_args 0 [.ref 1, .int v1, .int v2]) [] S R Q := by
  obtain ⟨c, b, e, hr, hR⟩ := id hK
  obtain ⟨hc, hb, he, hn, hL, hB, hE, hW⟩ := id hr
  refine z_use (v_met 60 133 rw_160 (List.mem_of_getElem? (i := 0) rfl) (Nat.le_of_ble_eq_true rfl)) (Nat.le_of_ble_eq_true rfl) mt_X11_added ⟨rfl, ⟨_, rfl, (q_rng _).1, (q_rng _).2⟩, ⟨_, rfl, (q_rng _).1, (q_rng _).2⟩, trivial⟩ hT hO (fun n d => c_X11_added L xs n d v1 v2 S R) (fun r S1 R1 S2 R2 hT1 hO1 hr1 hF ee q => ?_)
  have hS1 := z_K_T hc hb hR hF rfl
  obtain ⟨v, hv, hRR, hf, hg⟩ := q
  have k1 := z_added_ans hS1 v1 v2
  rw [← hv, ← hf, k1]
  exact hq S1 R1 hT1 hO1 (z_K_fr hK hF rfl)
theorem a_X12_added (v1 v2 : Int32) (hT : v_Tb v_ty S R) (hO : v_Op S) (hK : z_K S R) (hq : ∀ S' R', v_Tb v_ty S' R' → v_Op S' → z_K S' R' → Q (some (.int (f_X12_added v1 v2 S))) S' R') : w_T L xs 59 m_X12_added 0 (lv_args 0 [.ref 100, .int v1, .int v2]) [] S R Q := by
  refine z_use (v_met 60 292 rw_264 (List.mem_of_getElem? (i := 0) rfl) (Nat.le_of_ble_eq_true rfl)) (Nat.le_of_ble_eq_true rfl) mt_X12_added ⟨rfl, ⟨_, rfl, (q_rng _).1, (q_rng _).2⟩, ⟨_, rfl, (q_rng _).1, (q_rng _).2⟩, trivial⟩ hT hO (fun n d => c_X12_added L xs n d v1 v2 S R) (fun r S1 R1 S2 R2 hT1 hO1 hr1 hF ee q => ?_)
  obtain ⟨v, hv, hRR, hf, hg⟩ := q
  rw [← hv, ← hf]
  exact hq S1 R1 hT1 hO1 (z_K_fr hK hF rfl)
end CA_added
