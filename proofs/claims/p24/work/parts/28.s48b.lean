/-! from: the answers -/
theorem z_isHas {a : Int32} {k : Nat} (hk : k < 31) : (f_X11_isIn a (z_i k) = 0) ↔ (f_X12_has a (z_i k) = 0) := by
  unfold f_X11_isIn f_X12_has
  rw [if_neg (by rw [show (0 : Int32) = z_i 0 from rfl, z_ilt (by omega) (by omega)]; omega), if_neg (by rw [show Int32.ofInt 31 = z_i 31 from rfl, z_ile (by omega) (by omega)]; omega)]
  rcases z_and1 (a >>> (z_i k &&& 31)) with q | q
  · rw [q, if_pos (by decide), if_pos (by decide)]
  · rw [q, if_neg (by decide), if_neg (by decide)]
theorem z_homes_l {S T : v_Sf} (hO : z_Ot S T) (a g : Int32) : ∀ (r k X : Nat), k + r = 10 → X < 2 ^ k → ∃ Y, Y < 1024 ∧ r_X11_homesLike_5 (T 122 g.toInt.toNat) a S r k (z_i X) = z_i Y ∧ r_X12_homesFor_5 g a T r k (z_i X) = z_i Y := by
  obtain ⟨o1, o2, o3, ⟨o4, o4b⟩, o5, o6, o7, o8⟩ := hO
  obtain ⟨M, hM, hMe⟩ : ∃ M, M < 1024 ∧ S 0 13 = z_i M := ⟨(S 0 13).toInt.toNat, by omega, (z_ofN o4.1).symm⟩
  intro r
  induction r with
  | zero =>
    intro k X hk hX
    obtain rfl : k = 10 := by omega
    exact ⟨X, hX, by rw [r_X11_homesLike_5], by rw [r_X12_homesFor_5]⟩
  | succ r ih =>
    intro k X hk hX
    have ek : (z_i k).toInt.toNat = k := z_iin (by omega)
    have hX2 : X < 2 ^ (k + 1) := by
      rw [Nat.pow_succ]
      omega
    have hI := z_isInN (X := M) (g := k) (by omega)
    have ho := o4b k (by omega)
    rw [hMe, z_bitN (by omega)] at ho
    have e31 : S 31 k = T 160 k := (o5 k (by omega)).1
    rw [r_X11_homesLike_5, r_X12_homesFor_5, ek, hMe, e31]
    by_cases t : T 159 k = 0
    · have t2 : M.testBit k = false := by
        have : ¬ M.testBit k = true := fun m => ho.mp m t
        simpa using this
      rw [if_pos (hI.mpr t2), if_pos t]
      exact ih (k + 1) X (by omega) hX2
    · have t2 : M.testBit k = true := ho.mpr t
      rw [if_neg (fun m => by rw [hI.mp m] at t2; cases t2), if_neg t]
      by_cases q : (T 160 k ^^^ T 122 g.toInt.toNat) &&& a = 0
      · rw [if_neg (not_not_intro q), if_neg (not_not_intro q)]
        have e := z_ors_all ⟨k, by omega⟩ ⟨X, hX⟩
        simp only at e
        rw [e]
        exact ih (k + 1) (X + 2 ^ k) (by omega) (by rw [Nat.pow_succ]; omega)
      · rw [if_pos q, if_pos q]
        exact ih (k + 1) X (by omega) hX2
theorem z_maxE (w p : Int32) : (if w ≤ p then p else w) = z_max w p := by
  unfold z_max
  by_cases q : w < p
  · rw [if_pos q, if_pos (by rw [z_ltI2] at q; rw [z_leI2]; omega)]
  · rw [if_neg q]
    by_cases q2 : w ≤ p
    · rw [if_pos q2]
      refine z_inj2 ?_
      rw [z_ltI2] at q
      rw [z_leI2] at q2
      omega
    · rw [if_neg q2]
theorem z_grp_l {S T : v_Sf} (hO : z_Ot S T) (a : Int32) {h : Nat} (hh : h < 10) : ∀ (r k : Nat) (x : Int32), k + r = 10 → r_X12_greaterPart_5 a (z_i h) T r k x = z_max (r_X11_homesWith_5 a (z_i h) S r k x) (f_X12_sizeOf a - r_X11_homesWith_5 a (z_i h) S r k x) := by
  obtain ⟨o1, o2, o3, o4, o5, o6, o7, o8⟩ := hO
  intro r
  induction r with
  | zero =>
    intro k x _
    rw [r_X12_greaterPart_5, r_X11_homesWith_5, z_maxE]
  | succ r ih =>
    intro k x hk
    have ek : (z_i k).toInt.toNat = k := z_iin (by omega)
    have e31 : S 31 k = T 160 k := (o5 k (by omega)).1
    have h1 := z_isHas (a := a) (k := k) (by omega)
    have h2 := z_isHas (a := T 160 k) (k := h) (by omega)
    rw [r_X12_greaterPart_5, r_X11_homesWith_5, ek, e31, z_addz]
    by_cases q1 : f_X12_has a (z_i k) = 0
    · rw [if_pos q1, if_pos (h1.mpr q1)]
      exact ih (k + 1) x (by omega)
    · rw [if_neg q1, if_neg (fun m => q1 (h1.mp m))]
      by_cases q2 : f_X12_has (T 160 k) (z_i h) = 0
      · rw [if_pos q2, if_pos (h2.mpr q2)]
        exact ih (k + 1) x (by omega)
      · rw [if_neg q2, if_neg (fun m => q2 (h2.mp m))]
        exact ih (k + 1) _ (by omega)
theorem z_tel_l {S T : v_Sf} (hO : z_Ot S T) {F : Nat} (hF : F < 1024) (a : Int32) : ∀ (r k : Nat) (x y : Int32), k + r = 10 → r_X11_mostTelling_15 (z_i F) a (f_J6_bitCount_0f7a4 (z_i F)) S r k x y = r_X12_from_56 a (z_i F) T r k y x := by
  intro r
  induction r with
  | zero => intro k x y _; rw [r_X11_mostTelling_15, r_X12_from_56]
  | succ r ih =>
    intro k x y hk
    have h1 := z_isHas (a := a) (k := k) (by omega)
    have ep : f_X12_sizeOf (z_i F) = f_J6_bitCount_0f7a4 (z_i F) := (z_bc12 (x := z_i F) (by rw [z_it3 (by omega)]; omega)).symm
    have eg : f_X12_greaterPart (z_i F) (z_i k) T = z_max (f_X11_homesWith (z_i F) (z_i k) S) (f_J6_bitCount_0f7a4 (z_i F) - f_X11_homesWith (z_i F) (z_i k) S) := by
      unfold f_X12_greaterPart F_X12_greaterPart f_X11_homesWith F_X11_homesWith
      rw [← ep]
      exact z_grp_l hO (z_i F) (by omega) 10 0 _ (by omega)
    rw [r_X11_mostTelling_15, r_X12_from_56, eg]
    by_cases q1 : f_X12_has a (z_i k) = 0
    · rw [if_neg (not_not_intro q1), if_neg (not_not_intro (h1.mpr q1))]
      generalize z_max (f_X11_homesWith (z_i F) (z_i k) S) (f_J6_bitCount_0f7a4 (z_i F) - f_X11_homesWith (z_i F) (z_i k) S) = G
      by_cases q2 : x ≤ G
      · rw [if_pos q2, if_neg (by rw [z_leI2] at q2; rw [z_ltI2]; omega)]
        exact ih (k + 1) x y (by omega)
      · rw [if_neg q2, if_pos (by rw [z_leI2] at q2; rw [z_ltI2]; omega)]
        exact ih (k + 1) _ _ (by omega)
    · rw [if_pos q1, if_pos (fun m => q1 (h1.mp m))]
      exact ih (k + 1) x y (by omega)
theorem z_from_ans {c b : Nat} {S T : v_Sf} (h : z_Rel c b S T) (g a x : Int32) : f_X11_from g a x S = f_X12_from g a x T := by
  obtain ⟨⟨nc, hB⟩, hP, hT, hK, hO, h17, h25⟩ := h
  unfold f_X11_from f_X12_from F_X12_from f_X12_areHabits
  rw [z_told_eq hB.1 g]
  by_cases t : f_X12_isTold g T = 0
  · rw [if_pos t, if_pos t]
  · rw [if_neg t, if_neg t]
    obtain ⟨hg, tg⟩ := z_tld t
    have e7 : S 7 g.toInt.toNat = T 122 g.toInt.toNat := (hB.1.2.2.2.2.2.2.1 _ (by omega)).1
    obtain ⟨Y, hY, y1, y2⟩ := z_homes_l hO a g 10 0 0 (by omega) (by decide)
    have f1 : f_X11_homesLike (T 122 g.toInt.toNat) a S = z_i Y := y1
    have f2 : f_X12_homesFor g a T = z_i Y := y2
    have ep : f_X12_sizeOf (z_i Y) = f_J6_bitCount_0f7a4 (z_i Y) := (z_bc12 (x := z_i Y) (by rw [z_it3 (by omega)]; omega)).symm
    rw [e7, f1, f2]
    by_cases r : 0 ≤ a.toInt ∧ a.toInt ≤ 1023
    · rw [if_neg (fun m => z_within.mp m r), if_neg (fun m => z_in0.mp m r)]
      by_cases r2 : 0 ≤ x.toInt ∧ x.toInt ≤ 1
      · rw [if_pos (fun m => z_within.mp m r2), if_pos (fun m => z_in0.mp m r2)]
        by_cases q : x = 0
        · rw [if_neg (not_not_intro q), if_neg (not_not_intro q)]
        · rw [if_pos q, if_pos q, ep]
          unfold f_X11_mostTelling F_X11_mostTelling
          exact z_tel_l hO hY a 10 0 _ _ (by omega)
      · rw [if_neg (not_not_intro (z_within.mpr r2)), if_neg (not_not_intro (z_in0.mpr r2))]
    · rw [if_pos (z_within.mpr r), if_pos (z_in0.mpr r)]
section CA_from
variable {L : Nat} {xs : Nat → Int32} {S : v_Sf} {R : v_Rf} {Q : Option Value → v_Sf → v_Rf → Prop}
theorem a_X11_from (v1 v2 v3 : Int32) (hT : v_Tb v_ty S R) (hO : v_Op S) (hK : z_K S R) (hq : ∀ S' R', v_Tb v_ty S' R' → v_Op S' → z_K S' R' → Q (some (.int (f_X12_from v1 v2 v3 S'))) S' R') : w_T L xs 59 m_X11_from 0 (lv_args 0 [.ref 1, .int v1, .int v2, .int v3]) [] S R Q := by
  obtain ⟨c, b, e, hr, hR⟩ := id hK
  obtain ⟨hc, hb, he, hn, hL, hB, hE, hW⟩ := id hr
  refine z_use (v_met 60 137 rw_164 (List.mem_of_getElem? (i := 0) rfl) (Nat.le_of_ble_eq_true rfl)) (Nat.le_of_ble_eq_true rfl) mt_X11_from ⟨rfl, ⟨_, rfl, (q_rng _).1, (q_rng _).2⟩, ⟨_, rfl, (q_rng _).1, (q_rng _).2⟩, ⟨_, rfl, (q_rng _).1, (q_rng _).2⟩, trivial⟩ hT hO (fun n d => c_X11_from L xs n d v1 v2 v3 S R) (fun r S1 R1 S2 R2 hT1 hO1 hr1 hF ee q => ?_)
  have hS1 := z_K_T hc hb hR hF rfl
  obtain ⟨v, hv, hRR, hf, hg⟩ := q
  have k1 := z_from_ans hS1 v1 v2 v3
  rw [← hv, ← hf, k1]
  exact hq S1 R1 hT1 hO1 (z_K_fr hK hF rfl)
theorem a_X12_from (v1 v2 v3 : Int32) (hT : v_Tb v_ty S R) (hO : v_Op S) (hK : z_K S R) (hq : ∀ S' R', v_Tb v_ty S' R' → v_Op S' → z_K S' R' → Q (some (.int (f_X12_from v1 v2 v3 S))) S' R') : w_T L xs 59 m_X12_from 0 (lv_args 0 [.ref 100, .int v1, .int v2, .int v3]) [] S R Q := by
  refine z_use (v_met 60 269 rw_237 (List.mem_of_getElem? (i := 0) rfl) (Nat.le_of_ble_eq_true rfl)) (Nat.le_of_ble_eq_true rfl) mt_X12_from ⟨rfl, ⟨_, rfl, (q_rng _).1, (q_rng _).2⟩, ⟨_, rfl, (q_rng _).1, (q_rng _).2⟩, ⟨_, rfl, (q_rng _).1, (q_rng _).2⟩, trivial⟩ hT hO (fun n d => c_X12_from L xs n d v1 v2 v3 S R) (fun r S1 R1 S2 R2 hT1 hO1 hr1 hF ee q => ?_)
  obtain ⟨v, hv, hRR, hf, hg⟩ := q
  rw [← hv, ← hf]
  exact hq S1 R1 hT1 hO1 (z_K_fr hK hF rfl)
end CA_from
