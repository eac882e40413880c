/-! quarrel, count, added: the answers -/
theorem z_told_up {n n' : Nat} (hn : n ≤ n') (hn' : n' ≤ 12) {b : Int32} {I : Nat → Int32} (h : z_told n (2 ^ n - 1 : Nat) b I) : z_told n' (2 ^ n' - 1 : Nat) b (fun k => if k < n then I k else 0) := by
  obtain ⟨⟨h1, h2⟩, h3⟩ := h
  have hp : 2 ^ n ≤ 2 ^ n' := Nat.pow_le_pow_right (by decide) hn
  have hp1 : 1 ≤ 2 ^ n := Nat.one_le_two_pow
  have hb := z_toN h1
  refine ⟨⟨h1, by omega⟩, fun g hg => ?_⟩
  by_cases q : g < n
  · simp only [if_pos q]
    exact h3 g q
  · simp only [if_neg q]
    rw [z_bitL _ (by omega), BitVec.getLsbD, Nat.testBit_lt_two_pow (by have : 2 ^ n ≤ 2 ^ g := Nat.pow_le_pow_right (by decide) (by omega); omega)]
    simp
theorem z_toldN {b : Int32} {T : v_Sf} (h : z_told 5 31 b (T 129)) : f_X12_toldNurses T = b := by
  unfold f_X12_toldNurses F_X12_toldNurses
  rw [show 5 - 0 = 5 from rfl]
  refine z_bits_ok (n := 5) (by decide) h (r_X12_toldNurses_4 T) (fun k x => by rw [r_X12_toldNurses_4]) (fun r k x hk => ?_)
  rw [r_X12_toldNurses_4, z_iin (by omega)]
theorem z_told9 {b : Int32} {T : v_Sf} (h : z_told 4 (2 ^ 4 - 1 : Nat) b (T 156)) : f_X12_toldOf (Int32.ofInt 9) T = b := by
  unfold f_X12_toldOf F_X12_toldOf
  rw [show 10 - 0 = 10 from rfl]
  refine z_bits_ok (n := 10) (by decide) (z_told_up (by decide) (by decide) h) (r_X12_toldOf_4 (Int32.ofInt 9) T) (fun k x => by rw [r_X12_toldOf_4]) (fun r k x hk => ?_)
  rw [r_X12_toldOf_4, z_iin (by omega), if_neg (not_not_intro rfl)]
  by_cases q : k < 4
  · rw [if_neg (by rw [show Int32.ofInt 4 = z_i 4 from rfl, z_ile (by omega) (by omega)]; omega), if_pos q]
  · rw [if_pos (by rw [show Int32.ofInt 4 = z_i 4 from rfl, z_ile (by omega) (by omega)]; omega), if_neg q, if_pos rfl]
theorem z_told10 {b : Int32} {T : v_Sf} (h : z_told 10 (2 ^ 10 - 1 : Nat) b (T 159)) : f_X12_toldOf (Int32.ofInt 10) T = b := by
  unfold f_X12_toldOf F_X12_toldOf
  rw [show 10 - 0 = 10 from rfl]
  refine z_bits_ok (n := 10) (by decide) h (r_X12_toldOf_4 (Int32.ofInt 10) T) (fun k x => by rw [r_X12_toldOf_4]) (fun r k x hk => ?_)
  rw [r_X12_toldOf_4, z_iin (by omega), if_pos (by decide), if_neg (not_not_intro rfl)]
theorem z_told11 {b : Int32} {T : v_Sf} (h : z_told 5 (2 ^ 5 - 1 : Nat) b (T 162)) : f_X12_toldOf (Int32.ofInt 11) T = b := by
  unfold f_X12_toldOf F_X12_toldOf
  rw [show 10 - 0 = 10 from rfl]
  refine z_bits_ok (n := 10) (by decide) (z_told_up (by decide) (by decide) h) (r_X12_toldOf_4 (Int32.ofInt 11) T) (fun k x => by rw [r_X12_toldOf_4]) (fun r k x hk => ?_)
  rw [r_X12_toldOf_4, z_iin (by omega), if_pos (by decide), if_pos (by decide)]
  by_cases q : k < 5
  · rw [if_neg (by rw [show Int32.ofInt 5 = z_i 5 from rfl, z_ile (by omega) (by omega)]; omega), if_pos q]
  · rw [if_pos (by rw [show Int32.ofInt 5 = z_i 5 from rfl, z_ile (by omega) (by omega)]; omega), if_neg q, if_pos rfl]
theorem z_count_ans {c b : Nat} {S T : v_Sf} (h : z_Rel c b S T) (a : Int32) : f_X11_count c b a S = f_X12_count a T := by
  obtain ⟨⟨nc, ⟨a1, a2, a3, a4, a5, a6, a7, a8, a9, a10, a12, a13, a14⟩, b1, b3, b4, b5⟩, ⟨p1, p2, p3⟩, ⟨t1, t2, t3⟩, hK, ⟨o1, o2, o3, o4, o5, o6, o7, o8⟩, h17, h25⟩ := h
  unfold f_X11_count f_X12_count f_X3_clauses f_X3_ruleCount
  by_cases r : 0 ≤ (a - Int32.ofInt 20).toInt ∧ (a - Int32.ofInt 20).toInt ≤ 9
  · obtain ⟨k, hk, e⟩ : ∃ k, k < 10 ∧ a - Int32.ofInt 20 = z_i k := ⟨(a - Int32.ofInt 20).toInt.toNat, by omega, (z_ofN r.1).symm⟩
    have ea : a = z_i (k + 20) := by
      rw [← z_iadd, ← e, show z_i 20 = Int32.ofInt 20 from rfl, Int32.sub_add_cancel]
    have ne : ∀ m, m < 20 → ¬ a = Int32.ofInt (m : Nat) := fun m hm q => by
      rw [ea] at q
      have := congrArg (fun z => z.toInt.toNat) (show z_i (k + 20) = z_i m from q)
      simp only [z_iin (show k + 20 < 2147483648 by omega), z_iin (show m < 2147483648 by omega)] at this
      omega
    rw [if_neg (show ¬ a = Int32.ofInt 0 from ne 0 (by omega)), if_neg (show ¬ a = Int32.ofInt 1 from ne 1 (by omega)), if_neg (show ¬ a = Int32.ofInt 2 from ne 2 (by omega)), if_neg (show ¬ a = Int32.ofInt 3 from ne 3 (by omega)), if_neg (show ¬ a = Int32.ofInt 4 from ne 4 (by omega)), if_neg (show ¬ a = Int32.ofInt 5 from ne 5 (by omega)), if_neg (show ¬ a = Int32.ofInt 6 from ne 6 (by omega)), if_neg (show ¬ a = Int32.ofInt 7 from ne 7 (by omega)), if_neg (show ¬ a = Int32.ofInt 8 from ne 8 (by omega)), if_neg (show ¬ a = Int32.ofInt 9 from ne 9 (by omega)), if_neg (show ¬ a = Int32.ofInt 10 from ne 10 (by omega)), if_neg (show ¬ a = Int32.ofInt 11 from ne 11 (by omega)), if_neg (fun m => z_within.mp m r), if_neg (fun m => z_in0.mp m r)]
    exact (b3 _ (by omega)).1
  · rw [if_pos (z_in0.mpr r), if_pos (z_within.mpr r), a12.1, a13, a14, z_toldG a1, z_toldN a8, b4.1, b5, h17, t2, p3.1, z_told9 o1, z_told10 o4, z_told11 o6]
section CA_quarrel
variable {L : Nat} {xs : Nat → Int32} {S : v_Sf} {R : v_Rf} {Q : Option Value → v_Sf → v_Rf → Prop}
end CA_quarrel
section CA_count
variable {L : Nat} {xs : Nat → Int32} {S : v_Sf} {R : v_Rf} {Q : Option Value → v_Sf → v_Rf → Prop}
theorem a_X11_count (v1 : Int32) (hT : v_Tb v_ty S R) (hO : v_Op S) (hK : z_K S R) (hq : ∀ S' R', v_Tb v_ty S' R' → v_Op S' → z_K S' R' → Q (some (.int (f_X12_count v1 S'))) S' R') : w_T L xs 59 m_X11_count 0 (lv_args 0 [.ref 1, .int v1]) [] S R Q := by
  obtain ⟨c, b, e, hr, hR⟩ := id hK
  obtain ⟨hc, hb, he, hn, hL, hB, hE, hW⟩ := id hr
  refine z_use (v_met 60 132 rw_159 (List.mem_of_getElem? (i := 0) rfl) (Nat.le_of_ble_eq_true rfl)) (Nat.le_of_ble_eq_true rfl) mt_X11_count ⟨rfl, ⟨_, rfl, (q_rng _).1, (q_rng _).2⟩, trivial⟩ hT hO (fun n d => c_X11_count L xs n d hL hc hB hb v1 S) (fun r S1 R1 S2 R2 hT1 hO1 hr1 hF ee q => ?_)
  have hS1 := z_K_T hc hb hR hF rfl
  obtain ⟨v, hv, hRR, hf, hg⟩ := q
  have k1 := z_count_ans hS1 v1
  rw [← hv, ← hf, k1]
  exact hq S1 R1 hT1 hO1 (z_K_fr hK hF rfl)
theorem a_X12_count (v1 : Int32) (hT : v_Tb v_ty S R) (hO : v_Op S) (hK : z_K S R) (hq : ∀ S' R', v_Tb v_ty S' R' → v_Op S' → z_K S' R' → Q (some (.int (f_X12_count v1 S))) S' R') : w_T L xs 59 m_X12_count 0 (lv_args 0 [.ref 100, .int v1]) [] S R Q := by
  refine z_use (v_met 60 298 rw_270 (List.mem_of_getElem? (i := 0) rfl) (Nat.le_of_ble_eq_true rfl)) (Nat.le_of_ble_eq_true rfl) mt_X12_count ⟨rfl, ⟨_, rfl, (q_rng _).1, (q_rng _).2⟩, trivial⟩ hT hO (fun n d => c_X12_count L xs n d v1 S R) (fun r S1 R1 S2 R2 hT1 hO1 hr1 hF ee q => ?_)
  obtain ⟨v, hv, hRR, hf, hg⟩ := q
  rw [← hv, ← hf]
  exact hq S1 R1 hT1 hO1 (z_K_fr hK hF rfl)
end CA_count
section CA_added
variable {L : Nat} {xs : Nat → Int32} {S : v_Sf} {R : v_Rf} {Q : Option Value → v_Sf → v_Rf → Prop}
end CA_added
