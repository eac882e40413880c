/-! quarrel, count, added: the answers -/
theorem z_north (s : Int32) : ∀ q, q < 8 → f_X11_northward (z_i q) s = f_X12_partOf s (z_i q)
  | 0, _ => rfl
  | 1, _ => rfl
  | 2, _ => rfl
  | 3, _ => rfl
  | 4, _ => rfl
  | 5, _ => rfl
  | 6, _ => rfl
  | 7, _ => rfl
theorem z_turn_all : ∀ q : Fin 8, (z_i q.val &&& Int32.ofInt 7) = z_i q.val ∧ ((z_i q.val + Int32.ofInt 6) &&& Int32.ofInt 7) = z_i ((q.val + 6) % 8) ∧ ((z_i q.val + Int32.ofInt 6) - (z_i q.val + Int32.ofInt 6) / Int32.ofInt 8 * Int32.ofInt 8) = z_i ((q.val + 6) % 8) := by decide +kernel
theorem z_added_l {S T : v_Sf} (h : z_St 1 S T) {w x : Int32} (hw : 0 ≤ w.toInt ∧ w.toInt ≤ 6) (hx : 0 ≤ x.toInt ∧ x.toInt ≤ 1) : ∀ (r k : Nat) (y : Int32), k + r = 12 → r_X11_added_24 w x S r k y = r_X12_added_29 w x T r k y := by
  obtain ⟨a1, a2, a3, a4, a5, _⟩ := id h
  intro r
  induction r with
  | zero => intro k y _; rw [r_X11_added_24, r_X12_added_29]
  | succ r ih =>
    intro k y hk
    have ek : (z_i k).toInt.toNat = k := z_iin (by omega)
    have hg := z_hasG2 (s := 1) h (g := k) (by omega)
    have e2 : S 2 k = T 117 k := (a2 k (by omega)).1
    have e5 : S 5 k = T 120 k := (a5 k (by omega)).1
    rw [r_X11_added_24, r_X12_added_29, ek, e2, e5]
    by_cases t : T 116 k = 0
    · rw [if_pos (hg.mpr t), if_pos t]
      exact ih (k + 1) y (by omega)
    · rw [if_neg (fun m => t (hg.mp m)), if_neg t]
      have ne8 : ∀ {z : Int32}, 0 ≤ z.toInt ∧ z.toInt ≤ 7 → ¬ z = Int32.ofInt 8 ∧ ¬ z = Int32.ofInt (-1) := fun hz => ⟨fun e => by rw [e] at hz; exact absurd hz.2 (by decide), fun e => by rw [e] at hz; exact absurd hz.1 (by decide)⟩
      rcases a3 k (by omega) t with ⟨q1, q2⟩ | ⟨q1, q2⟩
      · have q1 : S 3 k = Int32.ofInt 8 := q1
        rw [q1, if_pos rfl, if_pos q2, ite_self, ite_self]
        exact ih (k + 1) y (by omega)
      · have q1 : S 3 k = T 118 k := q1
        obtain ⟨n8, n1⟩ := ne8 q2
        obtain ⟨z, hz, ez⟩ : ∃ z, z < 8 ∧ T 118 k = z_i z := ⟨(T 118 k).toInt.toNat, by omega, (z_ofN q2.1).symm⟩
        obtain ⟨u1, u2, u3⟩ := z_turn_all ⟨z, hz⟩
        simp only at u1 u2 u3
        rw [q1, if_neg n8, if_neg n1, ez, u1, u2, u3, z_north _ z hz, z_north _ _ (Nat.mod_lt _ (by decide))]
        have wh : ∀ (A B : Int32), (if ¬ x = 0 then A else B) = (if ¬ x = Int32.ofInt 1 then B else A) := by
          intro A B
          rcases z_01 hx with e | e
          · rw [e, if_neg (not_not_intro rfl), if_pos (by decide)]
          · rw [e, if_pos (by decide), if_neg (not_not_intro rfl)]
        rw [wh]
        by_cases w6 : w = Int32.ofInt 6
        · rw [if_pos w6, if_pos (show Int32.ofInt 6 ≤ w by rw [w6]; decide), ih (k + 1) _ (by omega), ih (k + 1) _ (by omega)]
        · have n6 : ¬ Int32.ofInt 6 ≤ w := fun m => by
            have := z_ne w6
            rw [z_leI2, show (Int32.ofInt 6).toInt = 6 from rfl] at m
            omega
          rw [if_neg w6, if_neg n6]
          by_cases ew : T 120 k = w
          · rw [if_neg (not_not_intro ew), if_pos ew, ih (k + 1) _ (by omega), ih (k + 1) _ (by omega)]
          · rw [if_pos ew, if_neg ew]
            exact ih (k + 1) y (by omega)
theorem z_added_ans {c b : Nat} {S T : v_Sf} (h : z_Rel c b S T) (w x : Int32) : f_X11_added w x S = f_X12_added w x T := by
  obtain ⟨⟨nc, hB⟩, _⟩ := id h
  unfold f_X11_added f_X12_added F_X11_added F_X12_added
  by_cases r : 0 ≤ w.toInt ∧ w.toInt ≤ 6
  · rw [if_neg (fun m => z_within.mp m r), if_neg (fun m => z_in0.mp m r)]
    by_cases r2 : 0 ≤ x.toInt ∧ x.toInt ≤ 1
    · rw [if_pos (fun m => z_within.mp m r2), if_pos (fun m => z_in0.mp m r2)]
      exact z_added_l hB.1 r r2 12 0 _ (by omega)
    · rw [if_neg (not_not_intro (z_within.mpr r2)), if_neg (not_not_intro (z_in0.mpr r2))]
  · rw [if_pos (z_within.mpr r), if_pos (z_in0.mpr r)]
section CA_quarrel
variable {L : Nat} {xs : Nat → Int32} {S : v_Sf} {R : v_Rf} {Q : Option Value → v_Sf → v_Rf → Prop}
end CA_quarrel
section CA_count
variable {L : Nat} {xs : Nat → Int32} {S : v_Sf} {R : v_Rf} {Q : Option Value → v_Sf → v_Rf → Prop}
end CA_count
section CA_added
variable {L : Nat} {xs : Nat → Int32} {S : v_Sf} {R : v_Rf} {Q : Option Value → v_Sf → v_Rf → Prop}
theorem a_X11_added (v1 v2 : Int32) (hT : v_Tb v_ty S R) (hO : v_Op S) (hK : z_K S R) (hq : ∀ S' R', v_Tb v_ty S' R' → v_Op S' → z_K S' R' → Q (some (.int (f_X12_added v1 v2 S'))) S' R') : w_T L xs 59 m_X11_added 0 (lv_args 0 [.ref 1, .int v1, .int v2]) [] S R Q := by
  obtain ⟨c, b, e, hr, hR⟩ := id hK
  obtain ⟨hc, hb, he, hn, hL, hB, hE, hW⟩ := id hr
  refine z_use (v_met 60 133 rw_160 (List.mem_of_getElem? (i := 0) rfl) (Nat.le_of_ble_eq_true rfl)) (Nat.le_of_ble_eq_true rfl) mt_X11_added ⟨rfl, ⟨_, rfl, (q_rng _).1, (q_rng _).2⟩, ⟨_, rfl, (q_rng _).1, (q_rng _).2⟩, trivial⟩ hT hO (fun n d => c_X11_added L xs n d v1 v2 S R) (fun r S1 R1 S2 R2 hT1 hO1 hr1 hF ee q => ?_)
  have hS1 := z_K_T hc hb hR hF rfl
  obtain ⟨v, hv, hRR, hf, hg⟩ := q
  have k1 := z_added_ans hS1 v1 v2
  rw [← hv, ← hf, k1]
  exact hq S1 R1 hT1 hO1 (z_K_fr hK hF rfl)
theorem a_X12_added (v1 v2 : Int32) (hT : v_Tb v_ty S R) (hO : v_Op S) (hK : z_K S R) (hq : ∀ S' R', v_Tb v_ty S' R' → v_Op S' → z_K S' R' → Q (some (.int (f_X12_added v1 v2 S))) S' R') : w_T L xs 59 m_X12_added 0 (lv_args 0 [.ref 100, .int v1, .int v2]) [] S R Q := by
  refine z_use (v_met 60 292 rw_264 (List.mem_of_getElem? (i := 0) rfl) (Nat.le_of_ble_eq_true rfl)) (Nat.le_of_ble_eq_true rfl) mt_X12_added ⟨rfl, ⟨_, rfl, (q_rng _).1, (q_rng _).2⟩, ⟨_, rfl, (q_rng _).1, (q_rng _).2⟩, trivial⟩ hT hO (fun n d => c_X12_added L xs n d v1 v2 S R) (fun r S1 R1 S2 R2 hT1 hO1 hr1 hF ee q => ?_)
  obtain ⟨v, hv, hRR, hf, hg⟩ := q
  rw [← hv, ← hf]
  exact hq S1 R1 hT1 hO1 (z_K_fr hK hF rfl)
end CA_added
