/-! the class reads a timetable: its row -/
section UN
variable {L : Nat} {xs : Nat → Int32} {d : Nat} {R : v_Rf} {Q : Option Value → v_Sf → v_Rf → Prop} {S0 : v_Sf} {mo : Nat} {ta te tf : Int32} {le : Nat → Int32}
theorem u_wo {a j : Nat} {v : Int32} (ha : a ≠ 66 ∧ a ≠ 74) : v_ur (u_S S0 mo ta te tf le) a (upd ((u_S S0 mo ta te tf le) a) j v) = u_S (v_ur S0 a (upd (S0 a) j v)) mo ta te tf le := by
  obtain ⟨a1, a2⟩ := ha
  refine p_ext ?_ (fun a' j' h => ?_)
  · unfold u_S
    rw [p_bq a1, p_bq a2]
    show v_ur S0 a (upd (S0 a) j v) a j = v
    exact w_urs
  · unfold u_S
    rw [w_urn h, w_urn (fun e => a1 e.1.symm)]
theorem x_clear53 (hq : Q none (u_S (v_ur (v_ur S0 52 (upd (S0 52) 6 (Int32.ofInt 0))) 52 (upd ((v_ur S0 52 (upd (S0 52) 6 (Int32.ofInt 0))) 52) 7 (Int32.ofInt 0))) mo ta te tf le) R) : w_T L xs d m_X1_clear 0 (lv_args 0 [.ref 53]) [] (u_S S0 mo ta te tf le) R Q := by
  refine w_st rfl (fun _ => rfl) ?_
  refine w_st rfl (fun _ => rfl) ?_
  show w_T L xs d m_X1_clear 2 [(0, .ref 53)] [.int (Int32.ofInt 0), .ref 53] (u_S S0 mo ta te tf le) R Q
  refine w_put rfl rfl rfl rfl rfl ?_
  refine w_eqS (u_wo (by decide)) ?_
  refine w_st rfl (fun _ => rfl) ?_
  refine w_st rfl (fun _ => rfl) ?_
  show w_T L xs d m_X1_clear 7 [(0, .ref 53)] [.int (Int32.ofInt 0), .ref 53] (u_S (v_ur S0 52 (upd (S0 52) 6 (Int32.ofInt 0))) mo ta te tf le) R Q
  refine w_put rfl rfl rfl rfl rfl ?_
  refine w_eqS (u_wo (by decide)) ?_
  show w_T L xs d m_X1_clear 10 [(0, .ref 53)] [] (u_S (v_ur (v_ur S0 52 (upd (S0 52) 6 (Int32.ofInt 0))) 52 (upd ((v_ur S0 52 (upd (S0 52) 6 (Int32.ofInt 0))) 52) 7 (Int32.ofInt 0))) mo ta te tf le) R Q
  refine w_ret rfl rfl ?_
  exact hq
theorem x_begin53 {n : Int32} (hT : v_Tb v_ty S0 R) (hR : R 66 1 = some 53) (hq : ∀ S1 : v_Sf, (∀ a j, ¬ ((a = 52 ∨ a = 59 ∨ a = 67) ∧ 6 ≤ j ∧ j ≤ 7) → S1 a j = S0 a j) → v_Tb v_ty S1 R → Q none (u_S S1 0 (Int32.ofInt 0) n (Int32.ofInt 0) le) R) : w_T L xs (d + 1) m_X5_begin 0 (lv_args 0 [.ref 67, .int n]) [] (u_S S0 mo ta te tf le) R Q := by
  refine w_st rfl (fun _ => rfl) ?_
  show w_T L xs (d + 1) m_X5_begin 1 [(0, .ref 67), (1, .int n)] [.ref 67] (u_S S0 mo ta te tf le) R Q
  refine w_getv rfl v_tyR rfl hR ?_
  show w_T L xs (d + 1) m_X5_begin 4 [(0, .ref 67), (1, .int n)] [.ref 53] (u_S S0 mo ta te tf le) R Q
  refine w_cv rfl (by decide) mt_X1_clear rfl rfl rfl rfl (Nat.le_of_ble_eq_true rfl) (Nat.le_of_ble_eq_true rfl) (Nat.le_of_ble_eq_true rfl) ?_
  show w_T L xs _ m_X1_clear 0 (lv_args 0 [.ref 53]) [] (u_S S0 mo ta te tf le) R _
  refine x_clear53 ?_
  refine w_st rfl (fun _ => rfl) ?_
  refine w_st rfl (fun _ => rfl) ?_
  show w_T L xs (d + 1) m_X5_begin 9 [(0, .ref 67), (1, .int n)] [.int (Int32.ofInt 0), .ref 67] (u_S (v_ur (v_ur S0 52 (upd (S0 52) 6 (Int32.ofInt 0))) 52 (upd ((v_ur S0 52 (upd (S0 52) 6 (Int32.ofInt 0))) 52) 7 (Int32.ofInt 0))) mo ta te tf le) R Q
  refine w_put rfl rfl rfl rfl rfl ?_
  refine w_eqS (u_wmo (k := 0) rfl) ?_
  refine w_st rfl (fun _ => rfl) ?_
  refine w_st rfl (fun _ => rfl) ?_
  show w_T L xs (d + 1) m_X5_begin 14 [(0, .ref 67), (1, .int n)] [.int (Int32.ofInt 0), .ref 67] (u_S (v_ur (v_ur S0 52 (upd (S0 52) 6 (Int32.ofInt 0))) 52 (upd ((v_ur S0 52 (upd (S0 52) 6 (Int32.ofInt 0))) 52) 7 (Int32.ofInt 0))) 0 ta te tf le) R Q
  refine w_put rfl rfl rfl rfl rfl ?_
  refine w_eqS u_wta ?_
  refine w_st rfl (fun _ => rfl) ?_
  refine w_st rfl (fun _ => rfl) ?_
  show w_T L xs (d + 1) m_X5_begin 19 [(0, .ref 67), (1, .int n)] [.int n, .ref 67] (u_S (v_ur (v_ur S0 52 (upd (S0 52) 6 (Int32.ofInt 0))) 52 (upd ((v_ur S0 52 (upd (S0 52) 6 (Int32.ofInt 0))) 52) 7 (Int32.ofInt 0))) 0 (Int32.ofInt 0) te tf le) R Q
  refine w_put rfl rfl rfl rfl rfl ?_
  refine w_eqS u_wte ?_
  refine w_st rfl (fun _ => rfl) ?_
  refine w_st rfl (fun _ => rfl) ?_
  show w_T L xs (d + 1) m_X5_begin 24 [(0, .ref 67), (1, .int n)] [.int (Int32.ofInt 0), .ref 67] (u_S (v_ur (v_ur S0 52 (upd (S0 52) 6 (Int32.ofInt 0))) 52 (upd ((v_ur S0 52 (upd (S0 52) 6 (Int32.ofInt 0))) 52) 7 (Int32.ofInt 0))) 0 (Int32.ofInt 0) n tf le) R Q
  refine w_put rfl rfl rfl rfl rfl ?_
  refine w_eqS u_wtf ?_
  show w_T L xs (d + 1) m_X5_begin 27 [(0, .ref 67), (1, .int n)] [] (u_S (v_ur (v_ur S0 52 (upd (S0 52) 6 (Int32.ofInt 0))) 52 (upd ((v_ur S0 52 (upd (S0 52) 6 (Int32.ofInt 0))) 52) 7 (Int32.ofInt 0))) 0 (Int32.ofInt 0) n (Int32.ofInt 0) le) R Q
  refine w_ret rfl rfl ?_
  refine hq _ (fun a j hn => ?_) (w_TbF (w_TbF hT (a := 52) rfl rfl (by decide) (by decide)) (a := 52) rfl rfl (by decide) (by decide))
  rw [w_urn (by omega), w_urn (by omega)]
theorem x_clear60 (hq : Q none (u_S (v_ur (v_ur S0 59 (upd (S0 59) 6 (Int32.ofInt 0))) 59 (upd ((v_ur S0 59 (upd (S0 59) 6 (Int32.ofInt 0))) 59) 7 (Int32.ofInt 0))) mo ta te tf le) R) : w_T L xs d m_X1_clear 0 (lv_args 0 [.ref 60]) [] (u_S S0 mo ta te tf le) R Q := by
  refine w_st rfl (fun _ => rfl) ?_
  refine w_st rfl (fun _ => rfl) ?_
  show w_T L xs d m_X1_clear 2 [(0, .ref 60)] [.int (Int32.ofInt 0), .ref 60] (u_S S0 mo ta te tf le) R Q
  refine w_put rfl rfl rfl rfl rfl ?_
  refine w_eqS (u_wo (by decide)) ?_
  refine w_st rfl (fun _ => rfl) ?_
  refine w_st rfl (fun _ => rfl) ?_
  show w_T L xs d m_X1_clear 7 [(0, .ref 60)] [.int (Int32.ofInt 0), .ref 60] (u_S (v_ur S0 59 (upd (S0 59) 6 (Int32.ofInt 0))) mo ta te tf le) R Q
  refine w_put rfl rfl rfl rfl rfl ?_
  refine w_eqS (u_wo (by decide)) ?_
  show w_T L xs d m_X1_clear 10 [(0, .ref 60)] [] (u_S (v_ur (v_ur S0 59 (upd (S0 59) 6 (Int32.ofInt 0))) 59 (upd ((v_ur S0 59 (upd (S0 59) 6 (Int32.ofInt 0))) 59) 7 (Int32.ofInt 0))) mo ta te tf le) R Q
  refine w_ret rfl rfl ?_
  exact hq
theorem x_begin60 {n : Int32} (hT : v_Tb v_ty S0 R) (hR : R 66 1 = some 60) (hq : ∀ S1 : v_Sf, (∀ a j, ¬ ((a = 52 ∨ a = 59 ∨ a = 67) ∧ 6 ≤ j ∧ j ≤ 7) → S1 a j = S0 a j) → v_Tb v_ty S1 R → Q none (u_S S1 0 (Int32.ofInt 0) n (Int32.ofInt 0) le) R) : w_T L xs (d + 1) m_X5_begin 0 (lv_args 0 [.ref 67, .int n]) [] (u_S S0 mo ta te tf le) R Q := by
  refine w_st rfl (fun _ => rfl) ?_
  show w_T L xs (d + 1) m_X5_begin 1 [(0, .ref 67), (1, .int n)] [.ref 67] (u_S S0 mo ta te tf le) R Q
  refine w_getv rfl v_tyR rfl hR ?_
  show w_T L xs (d + 1) m_X5_begin 4 [(0, .ref 67), (1, .int n)] [.ref 60] (u_S S0 mo ta te tf le) R Q
  refine w_cv rfl (by decide) mt_X1_clear rfl rfl rfl rfl (Nat.le_of_ble_eq_true rfl) (Nat.le_of_ble_eq_true rfl) (Nat.le_of_ble_eq_true rfl) ?_
  show w_T L xs _ m_X1_clear 0 (lv_args 0 [.ref 60]) [] (u_S S0 mo ta te tf le) R _
  refine x_clear60 ?_
  refine w_st rfl (fun _ => rfl) ?_
  refine w_st rfl (fun _ => rfl) ?_
  show w_T L xs (d + 1) m_X5_begin 9 [(0, .ref 67), (1, .int n)] [.int (Int32.ofInt 0), .ref 67] (u_S (v_ur (v_ur S0 59 (upd (S0 59) 6 (Int32.ofInt 0))) 59 (upd ((v_ur S0 59 (upd (S0 59) 6 (Int32.ofInt 0))) 59) 7 (Int32.ofInt 0))) mo ta te tf le) R Q
  refine w_put rfl rfl rfl rfl rfl ?_
  refine w_eqS (u_wmo (k := 0) rfl) ?_
  refine w_st rfl (fun _ => rfl) ?_
  refine w_st rfl (fun _ => rfl) ?_
  show w_T L xs (d + 1) m_X5_begin 14 [(0, .ref 67), (1, .int n)] [.int (Int32.ofInt 0), .ref 67] (u_S (v_ur (v_ur S0 59 (upd (S0 59) 6 (Int32.ofInt 0))) 59 (upd ((v_ur S0 59 (upd (S0 59) 6 (Int32.ofInt 0))) 59) 7 (Int32.ofInt 0))) 0 ta te tf le) R Q
  refine w_put rfl rfl rfl rfl rfl ?_
  refine w_eqS u_wta ?_
  refine w_st rfl (fun _ => rfl) ?_
  refine w_st rfl (fun _ => rfl) ?_
  show w_T L xs (d + 1) m_X5_begin 19 [(0, .ref 67), (1, .int n)] [.int n, .ref 67] (u_S (v_ur (v_ur S0 59 (upd (S0 59) 6 (Int32.ofInt 0))) 59 (upd ((v_ur S0 59 (upd (S0 59) 6 (Int32.ofInt 0))) 59) 7 (Int32.ofInt 0))) 0 (Int32.ofInt 0) te tf le) R Q
  refine w_put rfl rfl rfl rfl rfl ?_
  refine w_eqS u_wte ?_
  refine w_st rfl (fun _ => rfl) ?_
  refine w_st rfl (fun _ => rfl) ?_
  show w_T L xs (d + 1) m_X5_begin 24 [(0, .ref 67), (1, .int n)] [.int (Int32.ofInt 0), .ref 67] (u_S (v_ur (v_ur S0 59 (upd (S0 59) 6 (Int32.ofInt 0))) 59 (upd ((v_ur S0 59 (upd (S0 59) 6 (Int32.ofInt 0))) 59) 7 (Int32.ofInt 0))) 0 (Int32.ofInt 0) n tf le) R Q
  refine w_put rfl rfl rfl rfl rfl ?_
  refine w_eqS u_wtf ?_
  show w_T L xs (d + 1) m_X5_begin 27 [(0, .ref 67), (1, .int n)] [] (u_S (v_ur (v_ur S0 59 (upd (S0 59) 6 (Int32.ofInt 0))) 59 (upd ((v_ur S0 59 (upd (S0 59) 6 (Int32.ofInt 0))) 59) 7 (Int32.ofInt 0))) 0 (Int32.ofInt 0) n (Int32.ofInt 0) le) R Q
  refine w_ret rfl rfl ?_
  refine hq _ (fun a j hn => ?_) (w_TbF (w_TbF hT (a := 59) rfl rfl (by decide) (by decide)) (a := 59) rfl rfl (by decide) (by decide))
  rw [w_urn (by omega), w_urn (by omega)]
theorem x_clear68 (hq : Q none (u_S (v_ur (v_ur S0 67 (upd (S0 67) 6 (Int32.ofInt 0))) 67 (upd ((v_ur S0 67 (upd (S0 67) 6 (Int32.ofInt 0))) 67) 7 (Int32.ofInt 0))) mo ta te tf le) R) : w_T L xs d m_X1_clear 0 (lv_args 0 [.ref 68]) [] (u_S S0 mo ta te tf le) R Q := by
  refine w_st rfl (fun _ => rfl) ?_
  refine w_st rfl (fun _ => rfl) ?_
  show w_T L xs d m_X1_clear 2 [(0, .ref 68)] [.int (Int32.ofInt 0), .ref 68] (u_S S0 mo ta te tf le) R Q
  refine w_put rfl rfl rfl rfl rfl ?_
  refine w_eqS (u_wo (by decide)) ?_
  refine w_st rfl (fun _ => rfl) ?_
  refine w_st rfl (fun _ => rfl) ?_
  show w_T L xs d m_X1_clear 7 [(0, .ref 68)] [.int (Int32.ofInt 0), .ref 68] (u_S (v_ur S0 67 (upd (S0 67) 6 (Int32.ofInt 0))) mo ta te tf le) R Q
  refine w_put rfl rfl rfl rfl rfl ?_
  refine w_eqS (u_wo (by decide)) ?_
  show w_T L xs d m_X1_clear 10 [(0, .ref 68)] [] (u_S (v_ur (v_ur S0 67 (upd (S0 67) 6 (Int32.ofInt 0))) 67 (upd ((v_ur S0 67 (upd (S0 67) 6 (Int32.ofInt 0))) 67) 7 (Int32.ofInt 0))) mo ta te tf le) R Q
  refine w_ret rfl rfl ?_
  exact hq
theorem x_begin68 {n : Int32} (hT : v_Tb v_ty S0 R) (hR : R 66 1 = some 68) (hq : ∀ S1 : v_Sf, (∀ a j, ¬ ((a = 52 ∨ a = 59 ∨ a = 67) ∧ 6 ≤ j ∧ j ≤ 7) → S1 a j = S0 a j) → v_Tb v_ty S1 R → Q none (u_S S1 0 (Int32.ofInt 0) n (Int32.ofInt 0) le) R) : w_T L xs (d + 1) m_X5_begin 0 (lv_args 0 [.ref 67, .int n]) [] (u_S S0 mo ta te tf le) R Q := by
  refine w_st rfl (fun _ => rfl) ?_
  show w_T L xs (d + 1) m_X5_begin 1 [(0, .ref 67), (1, .int n)] [.ref 67] (u_S S0 mo ta te tf le) R Q
  refine w_getv rfl v_tyR rfl hR ?_
  show w_T L xs (d + 1) m_X5_begin 4 [(0, .ref 67), (1, .int n)] [.ref 68] (u_S S0 mo ta te tf le) R Q
  refine w_cv rfl (by decide) mt_X1_clear rfl rfl rfl rfl (Nat.le_of_ble_eq_true rfl) (Nat.le_of_ble_eq_true rfl) (Nat.le_of_ble_eq_true rfl) ?_
  show w_T L xs _ m_X1_clear 0 (lv_args 0 [.ref 68]) [] (u_S S0 mo ta te tf le) R _
  refine x_clear68 ?_
  refine w_st rfl (fun _ => rfl) ?_
  refine w_st rfl (fun _ => rfl) ?_
  show w_T L xs (d + 1) m_X5_begin 9 [(0, .ref 67), (1, .int n)] [.int (Int32.ofInt 0), .ref 67] (u_S (v_ur (v_ur S0 67 (upd (S0 67) 6 (Int32.ofInt 0))) 67 (upd ((v_ur S0 67 (upd (S0 67) 6 (Int32.ofInt 0))) 67) 7 (Int32.ofInt 0))) mo ta te tf le) R Q
  refine w_put rfl rfl rfl rfl rfl ?_
  refine w_eqS (u_wmo (k := 0) rfl) ?_
  refine w_st rfl (fun _ => rfl) ?_
  refine w_st rfl (fun _ => rfl) ?_
  show w_T L xs (d + 1) m_X5_begin 14 [(0, .ref 67), (1, .int n)] [.int (Int32.ofInt 0), .ref 67] (u_S (v_ur (v_ur S0 67 (upd (S0 67) 6 (Int32.ofInt 0))) 67 (upd ((v_ur S0 67 (upd (S0 67) 6 (Int32.ofInt 0))) 67) 7 (Int32.ofInt 0))) 0 ta te tf le) R Q
  refine w_put rfl rfl rfl rfl rfl ?_
  refine w_eqS u_wta ?_
  refine w_st rfl (fun _ => rfl) ?_
  refine w_st rfl (fun _ => rfl) ?_
  show w_T L xs (d + 1) m_X5_begin 19 [(0, .ref 67), (1, .int n)] [.int n, .ref 67] (u_S (v_ur (v_ur S0 67 (upd (S0 67) 6 (Int32.ofInt 0))) 67 (upd ((v_ur S0 67 (upd (S0 67) 6 (Int32.ofInt 0))) 67) 7 (Int32.ofInt 0))) 0 (Int32.ofInt 0) te tf le) R Q
  refine w_put rfl rfl rfl rfl rfl ?_
  refine w_eqS u_wte ?_
  refine w_st rfl (fun _ => rfl) ?_
  refine w_st rfl (fun _ => rfl) ?_
  show w_T L xs (d + 1) m_X5_begin 24 [(0, .ref 67), (1, .int n)] [.int (Int32.ofInt 0), .ref 67] (u_S (v_ur (v_ur S0 67 (upd (S0 67) 6 (Int32.ofInt 0))) 67 (upd ((v_ur S0 67 (upd (S0 67) 6 (Int32.ofInt 0))) 67) 7 (Int32.ofInt 0))) 0 (Int32.ofInt 0) n tf le) R Q
  refine w_put rfl rfl rfl rfl rfl ?_
  refine w_eqS u_wtf ?_
  show w_T L xs (d + 1) m_X5_begin 27 [(0, .ref 67), (1, .int n)] [] (u_S (v_ur (v_ur S0 67 (upd (S0 67) 6 (Int32.ofInt 0))) 67 (upd ((v_ur S0 67 (upd (S0 67) 6 (Int32.ofInt 0))) 67) 7 (Int32.ofInt 0))) 0 (Int32.ofInt 0) n (Int32.ofInt 0) le) R Q
  refine w_ret rfl rfl ?_
  refine hq _ (fun a j hn => ?_) (w_TbF (w_TbF hT (a := 67) rfl rfl (by decide) (by decide)) (a := 67) rfl rfl (by decide) (by decide))
  rw [w_urn (by omega), w_urn (by omega)]
end UN
theorem u_fin {R : v_Rf} {S S1 : v_Sf} {mo : Nat} {ta te tf : Int32} {le : Nat → Int32} (hO : v_Op S) (hT1 : v_Tb v_ty S1 R) (hF : ∀ a j, ¬ ((a = 52 ∨ a = 59 ∨ a = 67) ∧ 6 ≤ j ∧ j ≤ 7) → S1 a j = S a j) (hm : mo ≤ 49) : v_Tb v_ty (u_S S1 mo ta te tf le) R ∧ v_Op (u_S S1 mo ta te tf le) ∧ v_Fr [(52, 6, 7), (59, 6, 7), (66, 3, 6), (67, 6, 7), (74, 0, 49)] S R (u_S S1 mo ta te tf le) R := by
  refine ⟨u_Tb hT1 hm, v_fz_ok.1 S _ (fun a j hz => ?_) hO, fun a j hm => ?_⟩
  · have hz : v_md v_fz a j j = true := by
      unfold v_frz at hz
      rw [v_hit_jj] at hz
      exact hz
    obtain ⟨q, q1, q2, q3, q4⟩ := v_md_lt hz
    simp only [v_fz, List.mem_cons, List.not_mem_nil, or_false] at q1
    have hq1 : 99 ≤ a := by rcases q1 with rfl | rfl | rfl | rfl | rfl | rfl <;> (dsimp only at q2 q3 q4; omega)
    rw [u_at (by omega) (by omega), hF a j (by omega)]
  · refine ⟨?_, rfl⟩
    have n0 := p_nmd (a0 := 52) (lo := 6) (hi := 7) (by decide +kernel) hm
    have n1 := p_nmd (a0 := 59) (lo := 6) (hi := 7) (by decide +kernel) hm
    have n2 := p_nmd (a0 := 66) (lo := 3) (hi := 6) (by decide +kernel) hm
    have n3 := p_nmd (a0 := 67) (lo := 6) (hi := 7) (by decide +kernel) hm
    have n4 := p_nmd (a0 := 74) (lo := 0) (hi := 49) (by decide +kernel) hm
    rw [u_at (by omega) (by omega), hF a j (by omega)]
set_option maxHeartbeats 2000000 in
theorem hr_X5_readTimetable {L : Nat} {xs : Nat → Int32} (ih : ∀ x, ∀ w ∈ v_rw x, w.1 < rw_66.1 → v_Met L xs v_ty v_Op x w) : v_Met L xs v_ty v_Op 61 rw_66 := by
  intro M hM ac S R ha hT hO
  rw [mt_X5_readTimetable] at hM
  cases hM
  match ac, ha with
  | [r0, w1], ⟨h0, ⟨n, hg, _, _⟩, _⟩ =>
  have h0 : r0 = .ref 67 := h0
  subst h0 hg
  show w_T L xs (11 + 1) m_X5_readTimetable 0 (lv_args 0 [.ref 67, .int n]) [] S R (fun (r : Option Value) (S' : v_Sf) (R' : v_Rf) => v_Tb v_ty S' R' ∧ v_Op S' ∧ v_rk1 (some ((-2147483648), 2147483647)) r ∧ v_Fr [(52, 6, 7), (59, 6, 7), (66, 3, 6), (67, 6, 7), (74, 0, 49)] S R S' R')
  generalize hQ : (fun (r : Option Value) (S' : v_Sf) (R' : v_Rf) => v_Tb v_ty S' R' ∧ v_Op S' ∧ v_rk1 (some ((-2147483648), 2147483647)) r ∧ v_Fr [(52, 6, 7), (59, 6, 7), (66, 3, 6), (67, 6, 7), (74, 0, 49)] S R S' R') = Q
  have hq : ∀ (S' : v_Sf) (v : Int32), v_Tb v_ty S' R → v_Op S' → v_Fr [(52, 6, 7), (59, 6, 7), (66, 3, 6), (67, 6, 7), (74, 0, 49)] S R S' R → Q (some (.int v)) S' R := fun S' v a1 a2 a3 => by
    rw [← hQ]
    exact ⟨a1, a2, ⟨v, rfl, (q_rng v).1, (q_rng v).2⟩, a3⟩
  obtain ⟨mo, hS⟩ := u_of hT
  refine w_eqS hS ?_
  have hs0 : (S 45 1).toInt ≤ 260 := (hT 45 _ (show v_ty 45 = some (.inr (.inr (8, [.inr (.inl 47), .inl (0, 260)]))) from rfl) 1 _ rfl).2
  have key : ∀ S1 : v_Sf, (∀ a j, ¬ ((a = 52 ∨ a = 59 ∨ a = 67) ∧ 6 ≤ j ∧ j ≤ 7) → S1 a j = S a j) → v_Tb v_ty S1 R → w_T L xs (11 + 1) m_X5_readTimetable 5 [(0, .ref 67), (1, .int n)] [] (u_S S1 0 (Int32.ofInt 0) n (Int32.ofInt 0) (S 74)) R Q := by
    intro S1 hF hT1
    have hs : (S1 45 1).toInt ≤ 260 := by rw [hF 45 1 (by omega)]; exact hs0
    have c0 := x_group2 (L := L) (xs := xs) (d := 0) (R := R) hs
    have c1 := x_months (d := 1) hs (x_month (d := 0) hs c0)
    have c2 := x_months (d := 4) hs (x_month (d := 3) hs (x_group1 (d := 1) hs c1))
    have c3 := x_months (d := 7) hs (x_month (d := 6) hs (x_group0 (d := 4) hs c2))
    refine w_st rfl (fun _ => rfl) ?_
    refine w_st rfl (fun _ => rfl) ?_
    show w_T L xs (11 + 1) m_X5_readTimetable 7 [(0, .ref 67), (1, .int n)] [.int (Int32.ofInt 0), .ref 67] (u_S S1 0 (Int32.ofInt 0) n (Int32.ofInt 0) (S 74)) R Q
    refine w_cv rfl (by decide) mt_X5_readMonths rfl rfl rfl rfl (Nat.le_of_ble_eq_true rfl) (Nat.le_of_ble_eq_true rfl) (Nat.le_of_ble_eq_true rfl) ?_
    show w_T L xs _ m_X5_readMonths 0 (lv_args 0 [.ref 67, .int (Int32.ofInt 0)]) [] (u_S S1 0 (Int32.ofInt 0) n (Int32.ofInt 0) (S 74)) R _
    refine w_dm (d := 9) (by omega) (c3 _ _ _ _ _ _ (by omega) (fun m1 a1 e1 f1 l1 y1 y2 => ?_))
    refine w_st rfl (fun _ => rfl) ?_
    show w_T L xs (11 + 1) m_X5_readTimetable 11 [(0, .ref 67), (1, .int n)] [.ref 67] (u_S S1 m1 a1 e1 f1 l1) R Q
    refine w_get rfl rfl rfl ?_
    refine w_st rfl (fun _ => rfl) ?_
    show w_T L xs (11 + 1) m_X5_readTimetable 15 [(0, .ref 67), (1, .int n)] [.ref 67, .int a1] (u_S S1 m1 a1 e1 f1 l1) R Q
    refine w_get rfl rfl rfl ?_
    show w_T L xs (11 + 1) m_X5_readTimetable 18 [(0, .ref 67), (1, .int n)] [.int e1, .int a1] (u_S S1 m1 a1 e1 f1 l1) R Q
    refine w_br (P := e1 ≤ a1) rfl (fun _ => rfl) (fun h18 => ?_) (fun h18 => ?_)
    · refine w_st rfl (fun _ => rfl) ?_
      show w_T L xs (11 + 1) m_X5_readTimetable 31 [(0, .ref 67), (1, .int n)] [.ref 67] (u_S S1 m1 a1 e1 f1 l1) R Q
      refine w_get rfl rfl rfl ?_
      show w_T L xs (11 + 1) m_X5_readTimetable 34 [(0, .ref 67), (1, .int n)] [.int f1] (u_S S1 m1 a1 e1 f1 l1) R Q
      refine w_br (P := f1 = 0) rfl (fun _ => rfl) (fun h34 => ?_) (fun h34 => ?_)
      · refine w_st rfl (fun _ => rfl) ?_
        show w_T L xs (11 + 1) m_X5_readTimetable 45 [(0, .ref 67), (1, .int n)] [.ref 67] (u_S S1 m1 a1 e1 f1 l1) R Q
        refine w_get rfl rfl rfl ?_
        show w_T L xs (11 + 1) m_X5_readTimetable 48 [(0, .ref 67), (1, .int n)] [.int (Int32.ofInt (m1 : Int))] (u_S S1 m1 a1 e1 f1 l1) R Q
        refine w_ret rfl (by rfl) ?_
        obtain ⟨z1, z2, z3⟩ := u_fin (R := R) hO hT1 hF y2
        exact hq _ _ z1 z2 z3
      · refine w_st rfl (fun _ => rfl) ?_
        show w_T L xs (11 + 1) m_X5_readTimetable 38 [(0, .ref 67), (1, .int n)] [.ref 67] (u_S S1 m1 a1 e1 f1 l1) R Q
        refine w_get rfl rfl rfl ?_
        refine w_st rfl (fun _ => rfl) ?_
        show w_T L xs (11 + 1) m_X5_readTimetable 48 [(0, .ref 67), (1, .int n)] [.int f1] (u_S S1 m1 a1 e1 f1 l1) R Q
        refine w_ret rfl (by rfl) ?_
        obtain ⟨z1, z2, z3⟩ := u_fin (R := R) hO hT1 hF y2
        exact hq _ _ z1 z2 z3
    · refine w_st rfl (fun _ => rfl) ?_
      refine w_st rfl (fun _ => rfl) ?_
      refine w_st rfl (fun _ => rfl) ?_
      show w_T L xs (11 + 1) m_X5_readTimetable 24 [(0, .ref 67), (1, .int n)] [.ref 67, .int (Int32.ofInt 1), .ref 67] (u_S S1 m1 a1 e1 f1 l1) R Q
      refine w_get rfl rfl rfl ?_
      show w_T L xs (11 + 1) m_X5_readTimetable 27 [(0, .ref 67), (1, .int n)] [.int a1, .int (Int32.ofInt 1), .ref 67] (u_S S1 m1 a1 e1 f1 l1) R Q
      refine w_cv rfl (by decide) mt_X5_fail rfl rfl rfl rfl (Nat.le_of_ble_eq_true rfl) (Nat.le_of_ble_eq_true rfl) (Nat.le_of_ble_eq_true rfl) ?_
      show w_T L xs _ m_X5_fail 0 (lv_args 0 [.ref 67, .int (Int32.ofInt 1), .int a1]) [] (u_S S1 m1 a1 e1 f1 l1) R _
      refine x_fail (fun e27 f27 => ?_)
      refine w_st rfl (fun _ => rfl) ?_
      show w_T L xs (11 + 1) m_X5_readTimetable 31 [(0, .ref 67), (1, .int n)] [.ref 67] (u_S S1 m1 a1 e27 f27 l1) R Q
      refine w_get rfl rfl rfl ?_
      show w_T L xs (11 + 1) m_X5_readTimetable 34 [(0, .ref 67), (1, .int n)] [.int f27] (u_S S1 m1 a1 e27 f27 l1) R Q
      refine w_br (P := f27 = 0) rfl (fun _ => rfl) (fun h34 => ?_) (fun h34 => ?_)
      · refine w_st rfl (fun _ => rfl) ?_
        show w_T L xs (11 + 1) m_X5_readTimetable 45 [(0, .ref 67), (1, .int n)] [.ref 67] (u_S S1 m1 a1 e27 f27 l1) R Q
        refine w_get rfl rfl rfl ?_
        show w_T L xs (11 + 1) m_X5_readTimetable 48 [(0, .ref 67), (1, .int n)] [.int (Int32.ofInt (m1 : Int))] (u_S S1 m1 a1 e27 f27 l1) R Q
        refine w_ret rfl (by rfl) ?_
        obtain ⟨z1, z2, z3⟩ := u_fin (R := R) hO hT1 hF y2
        exact hq _ _ z1 z2 z3
      · refine w_st rfl (fun _ => rfl) ?_
        show w_T L xs (11 + 1) m_X5_readTimetable 38 [(0, .ref 67), (1, .int n)] [.ref 67] (u_S S1 m1 a1 e27 f27 l1) R Q
        refine w_get rfl rfl rfl ?_
        refine w_st rfl (fun _ => rfl) ?_
        show w_T L xs (11 + 1) m_X5_readTimetable 48 [(0, .ref 67), (1, .int n)] [.int f27] (u_S S1 m1 a1 e27 f27 l1) R Q
        refine w_ret rfl (by rfl) ?_
        obtain ⟨z1, z2, z3⟩ := u_fin (R := R) hO hT1 hF y2
        exact hq _ _ z1 z2 z3
  obtain ⟨r, hr, hR⟩ : ∃ r ∈ [53, 60, 68], R 66 1 = some r := hT 66 _ v_tyR 1 _ rfl
  simp only [List.mem_cons, List.not_mem_nil, or_false] at hr
  rcases hr with rfl | rfl | rfl
  · refine w_st rfl (fun _ => rfl) ?_
    refine w_st rfl (fun _ => rfl) ?_
    show w_T L xs (11 + 1) m_X5_readTimetable 2 [(0, .ref 67), (1, .int n)] [.int n, .ref 67] (u_S S mo (S 66 4) (S 66 5) (S 66 6) (S 74)) R Q
    refine w_cv rfl (by decide) mt_X5_begin rfl rfl rfl rfl (Nat.le_of_ble_eq_true rfl) (Nat.le_of_ble_eq_true rfl) (Nat.le_of_ble_eq_true rfl) ?_
    show w_T L xs _ m_X5_begin 0 (lv_args 0 [.ref 67, .int n]) [] (u_S S mo (S 66 4) (S 66 5) (S 66 6) (S 74)) R _
    refine x_begin53 hT hR (fun S1 hF hT1 => ?_)
    exact key S1 hF hT1
  · refine w_st rfl (fun _ => rfl) ?_
    refine w_st rfl (fun _ => rfl) ?_
    show w_T L xs (11 + 1) m_X5_readTimetable 2 [(0, .ref 67), (1, .int n)] [.int n, .ref 67] (u_S S mo (S 66 4) (S 66 5) (S 66 6) (S 74)) R Q
    refine w_cv rfl (by decide) mt_X5_begin rfl rfl rfl rfl (Nat.le_of_ble_eq_true rfl) (Nat.le_of_ble_eq_true rfl) (Nat.le_of_ble_eq_true rfl) ?_
    show w_T L xs _ m_X5_begin 0 (lv_args 0 [.ref 67, .int n]) [] (u_S S mo (S 66 4) (S 66 5) (S 66 6) (S 74)) R _
    refine x_begin60 hT hR (fun S1 hF hT1 => ?_)
    exact key S1 hF hT1
  · refine w_st rfl (fun _ => rfl) ?_
    refine w_st rfl (fun _ => rfl) ?_
    show w_T L xs (11 + 1) m_X5_readTimetable 2 [(0, .ref 67), (1, .int n)] [.int n, .ref 67] (u_S S mo (S 66 4) (S 66 5) (S 66 6) (S 74)) R Q
    refine w_cv rfl (by decide) mt_X5_begin rfl rfl rfl rfl (Nat.le_of_ble_eq_true rfl) (Nat.le_of_ble_eq_true rfl) (Nat.le_of_ble_eq_true rfl) ?_
    show w_T L xs _ m_X5_begin 0 (lv_args 0 [.ref 67, .int n]) [] (u_S S mo (S 66 4) (S 66 5) (S 66 6) (S 74)) R _
    refine x_begin68 hT hR (fun S1 hF hT1 => ?_)
    exact key S1 hF hT1
